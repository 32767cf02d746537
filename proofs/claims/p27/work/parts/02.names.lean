/-! ===== BEGIN words of one list among another's, by their places ===== -/
theorem goodIn_r {big : List Cond} (ws : List Cond) (ps : List Nat) (hp : ws = ps.filterMap (fun i => big[i]?)) (h : ws.all goodWord = true) : GoodIn big ws := by
  intro w hw
  have h1 := List.all_eq_true.mp h w hw
  rw [hp] at hw
  obtain ⟨i, -, hi⟩ := List.mem_filterMap.mp hw
  have hm : w ∈ big := by first | exact List.mem_of_getElem? hi | exact List.getElem?_mem hi
  exact ⟨hm, good_of_word h1⟩
theorem goodIn_app {big a b : List Cond} (ha : GoodIn big a) (hb : GoodIn big b) : GoodIn big (a ++ b) := fun w h => (List.mem_append.mp h).elim (ha w) (hb w)
theorem goodIn_ca {big a b : List Cond} {c : Cond} (ha : GoodIn big (c :: a)) (hb : GoodIn big b) : GoodIn big (c :: (a ++ b)) := fun w h => (List.mem_cons.mp h).elim (fun e => ha w (List.mem_cons.mpr (Or.inl e))) (fun h => (List.mem_append.mp h).elim (fun h => ha w (List.mem_cons.mpr (Or.inr h))) (hb w))
theorem goodIn_sub {big ws : List Cond} (hm : ∀ w ∈ ws, w ∈ big) (h : ws.all goodWord = true) : GoodIn big ws := fun w hw => ⟨hm w hw, good_of_word (List.all_eq_true.mp h w hw)⟩
/-! ===== END ===== -/


/-! ===== BEGIN exceptions that leave a method, and their catching by the caller (launches without stack traces) ===== -/
section VXA
/-! The laws vx_back, vx_callV, vx_callS, vx_callSW, vx_throw0, vx_throwS follow proofs of the library, with one case more: JvmDerived/Free/Laws.lean (Back.of_free), Shelf42/LK1.lean (callV, callS), Shelf/KitTraced.lean (throwNew0V, throwNewS). -/
/-- where a method has thrown q: the class by its name, the cell, what was written, the world -/
def vx_T (XC : String → State → State → Prop) (st : State) (q : Addr) (t : State) (mc ms : Nat) (free : Addr → Prop) : Prop :=
  ∃ (E : String) (ce : Cell) (L : List Loc), XC E st t ∧ t.heap[q]? = some ce ∧ ce.vm = .none ∧ st.vm.findClass E = some ce.cls ∧ st.WarmedH t.vm ∧ st.sameButNew ({ t with vm := st.vm } : State) L mc ms ∧ ∀ z ∈ L, free z.base
def vx_Q (Qc : Array Value → State → Outcome → State → Prop) (XC : String → State → State → Prop) (mc ms : Nat) (free : Addr → Prop) : Array Value → State → Outcome → State → Prop := fun a st o t =>
  (Qc a st o t ∧ ∃ L, FrameEnd st o t L mc ms ∧ ∀ q ∈ L, free q.base) ∨ ∃ q, o = .threw q ∧ vx_T XC st q t mc ms free
/-- a callee that returns or throws -/
def vx_Met (l : Launch) (y : MethodName) (ws : List Cond) (rm : Room) (Pc : Array Value → State → Prop) (Qc : Array Value → State → Outcome → State → Prop) (XC : String → State → State → Prop) (mc ms : Nat) (free : Addr → Prop) : Prop :=
  MetFree l y (headSpec ws rm) Pc (fun _ _ _ _ _ => True) (vx_Q Qc XC mc ms free)
def vx_Post (XC : String → State → State → Prop) (mc ms : Nat) (free : Addr → Prop) : Pt → Array Value → Addr → Pt → Prop := fun A a q B =>
  ∃ (g : JFrame) (mk : MethodId) (t : State) (L : List Loc) (E : String) (ce : Cell), B.U.heap = t.heap ∧ B.U.vm = t.vm ∧ XC E (A.U.calling g mk a) t ∧ t.heap[q]? = some ce ∧ ce.vm = .none ∧ A.U.vm.findClass E = some ce.cls ∧ B.locs = A.locs ++ L ∧ (∀ z ∈ L, free z.base) ∧ B.cells = A.cells + mc ∧ B.slots = A.slots + ms
def vx_Back (l : Launch) (R : Room) (p : Program) (e : Env) (below : List Frame) (s : State) (sargs : Array Value) (y : MethodName) (len W9 : Nat)
    (Pre : Pt → Array Value → Prop) (Post : Pt → Array Value → Option Value → Pt → Prop) (PostX : Pt → Array Value → Addr → Pt → Prop) : Prop :=
  ∀ (m : MethodId) (meth : Method) (c : Code) (A : Pt) (g : JFrame) (ig : Instr) (mk : MethodId) (a : Array Value),
    Stand p l e R s m sargs below meth c A.U A.locs A.cells A.slots → g.method = m → g.locals.size = c.maxLocals → decode c.code g.pc = .ok (ig, len) →
    2 * g.monitorRoom + (g.stack.map fun v => v.category).sum ≤ W9 → A.U.methodNamed? y = some mk → Pre A a →
    (∃ (v : Option Value) (B : Pt), Stand p l e R s m sargs below meth c B.U B.locs B.cells B.slots ∧ Post A a v B ∧
      Steps p.tables e below (doInvoke e (A.U.setTop g) [] mk a).1 (B.U.setTop { g with pc := g.pc + len, stack := v.toList ++ g.stack })) ∨
    (∃ (q : Addr) (B : Pt), Stand p l e R s m sargs below meth c B.U B.locs B.cells B.slots ∧ PostX A a q B ∧
      Steps p.tables e below (doInvoke e (A.U.setTop g) [] mk a).1 ((B.U.setTop g).pushFrame (.throwing q)))
section Payer
variable {l : Launch} {R : Room} {p : Program} {e : Env} {below : List Frame} {s : State} {sargs : Array Value} {y : MethodName} {len W9 : Nat}
theorem vx_back {ws : List Cond} {rm : Room} {Pc : Array Value → State → Prop} {Qc : Array Value → State → Outcome → State → Prop} {XC : String → State → State → Prop} {mc ms : Nat} {free : Addr → Prop} {bytes : ByteArray} {maxL : Nat} {ret : Option FieldType}
    (hM : vx_Met l y ws rm Pc Qc XC mc ms free) (hblind : FrameBlind Pc) (hrc : rm.cells = mc) (hrs : rm.slots = ms)
    (hframes : rm.frames + 1 ≤ R.frames) (hlocals : W9 + (maxL + 11) + rm.locals ≤ R.locals)
    (hws : ∀ w ∈ ws, ∀ a' U, s.WarmedH U.vm → w.before a' U = true) (hcode : Cond.code y bytes maxL ret ∈ ws) (hinit : ∀ a' U, s.WarmedH U.vm → (Cond.initialized y.cls).before a' U = true) :
    vx_Back l R p e below s sargs y len W9 (PreOf R mc ms Pc) (PostOf Qc mc ms free) (vx_Post XC mc ms free) := by
  intro m meth c A g ig mk a X hg hsize hdg hW hn hp
  have h1 : (headSpec ws rm).pre.before a A.U = true := atoms_intro fun w hw => hws w hw _ _ X.warmed
  have h2 : (Cond.code y bytes maxL ret).before a A.U = true := hws _ hcode _ _ X.warmed
  have h3 : (Cond.initialized y.cls).before a A.U = true := hinit _ _ X.warmed
  have h4 : A.cells + (headSpec ws rm).room.cells ≤ R.cells := by rw [show (headSpec ws rm).room.cells = mc from hrc]; exact hp.1
  have h5 : A.slots + (headSpec ws rm).room.slots ≤ R.slots := by rw [show (headSpec ws rm).room.slots = ms from hrs]; exact hp.2.1
  have hPc : Pc a (A.U.calling g mk a) := hblind _ _ _ _ hp.2.2
  obtain ⟨U, Ls, c0, s0⟩ := A
  dsimp only [Pt.U, Pt.locs, Pt.cells, Pt.slots] at h1 h2 h3 h4 h5 X hn hPc ⊢
  obtain ⟨methY, cY, hmY, hcY, -, hlY, -, -, -, -⟩ := Cond.code_spec hn h2
  obtain ⟨kY, hkY, -⟩ := className_of_methodNamed hn
  have hinitY : kY.init = .initialized := Cond.initialized_spec (findClass_of_methodNamed hn) hkY h3
  have h : At U g.method c below := by rw [hg]; exact X.here
  have hlocals9 : W9 + (maxL + 11) + (headSpec ws rm).room.locals ≤ R.locals := hlocals
  have happ : (headSpec ws rm).appliesLoose y e.platform (U.calling g mk a) = true :=
    Spec.appliesLoose_calling (g := g) h hdg hn hkY hinitY
      (X.room_calling (g := g) (R' := (headSpec ws rm).room) hsize hmY hcY hframes (by rw [hlY]; omega) h4 h5) h1
  obtain ⟨mid, hmid⟩ := h.above
  have hfr : (U.setTop g).frames = (.java g :: mid) ++ below := by rw [State.frames_setTop' g h.top, hmid]; rfl
  obtain ⟨o, s₂, hsteps, -, hend, hq⟩ := Steps.callFree hM p X.admits X.cas X.clock (acts := []) hfr happ hPc trivial
  have hq' : vx_Q Qc XC mc ms free a (U.calling g mk a) o s₂ := hq
  rw [State.frames_setTop' g h.top] at hend
  obtain ⟨g₀, hg0⟩ := Option.isSome_iff_exists.mp h.top
  obtain ⟨r, hr⟩ := State.topJava?_eq_some.mp hg0
  have hr' : (({ U with heap := s₂.heap, slotsUsed := s₂.slotsUsed } : State).setVm s₂.vm).frames = .java g₀ :: r := hr
  rcases hq' with ⟨hqc, L, hfe, hL⟩ | ⟨q, rfl, E, ce, L, hx, hce, hcv, hcl, hW₂, hsm, hL⟩
  · obtain ⟨⟨v, rfl⟩, hW₂, e2, q2, q3, q4, q5, q6⟩ := id hfe
    have e3 : s₂ = ({ (U.calling g mk a).setFrames s₂.frames with heap := s₂.heap, slotsUsed := s₂.slotsUsed } : State).setVm s₂.vm := by
      have : s₂ = ({ s₂ with vm := (U.calling g mk a).vm } : State).setVm s₂.vm := rfl
      rw [e2] at this
      exact this
    obtain ⟨c₂, i₂, len₂, hc₂, hd₂, hf₂⟩ := hend
    have hW' : U.WarmedH s₂.vm := hW₂
    have hcc : c₂ = c := by
      have h1 : s₂.code? g.method = U.code? g.method := by
        rw [State.code?_eq, State.code?_eq, hW'.alike.method?]
      exact Option.some.inj (hc₂.symm.trans (h1.trans h.code))
    subst hcc
    have hlen : len₂ = len := by rw [hdg] at hd₂; cases hd₂; rfl
    subst hlen
    have hs₂ : s₂ = (({ U with heap := s₂.heap, slotsUsed := s₂.slotsUsed } : State).setVm s₂.vm).setTop { g with pc := g.pc + len₂, stack := v.toList ++ g.stack } := by
      refine e3.trans ?_
      rw [hf₂, State.calling_eq h.top, State.setFrames_setFrames, State.setTop_of_frames _ hr', hr]
      rfl
    have hsame : U.sameButNew ({ U with heap := s₂.heap, slotsUsed := s₂.slotsUsed } : State) L mc ms := by
      refine ⟨?_, q2, q3, q4, q5, q6⟩
      obtain ⟨t, ht, -⟩ := State.frames_cons hr
      show ({ U with heap := s₂.heap, slotsUsed := s₂.slotsUsed } : State) = { U.setFrames U.frames with heap := s₂.heap, slotsUsed := s₂.slotsUsed }
      rw [State.setFrames_self ht]
    subst hg
    refine Or.inl ⟨v, ⟨(({ U with heap := s₂.heap, slotsUsed := s₂.slotsUsed } : State).setVm s₂.vm), Ls ++ L, c0 + mc, s0 + ms⟩,
      ⟨X.admits, X.cas, X.clock, X.frames, X.room, X.hears, X.method, X.code, (X.here.setHeapUsed s₂.heap s₂.slotsUsed).setVm hW'.alike, X.tail, State.WarmedH.trans X.warmed hW', X.limits, X.bytes, X.same.trans (hsame.setVm s.vm)⟩,
      ⟨g, mk, s₂, L, rfl, rfl, hqc, rfl, hL, rfl, rfl⟩, ?_⟩
    show Steps p.tables e below _ ((({ U with heap := s₂.heap, slotsUsed := s₂.slotsUsed } : State).setVm s₂.vm).setTop { g with pc := g.pc + len₂, stack := v.toList ++ g.stack })
    rw [← hs₂]
    exact hsteps
  · obtain ⟨e2, q2, q3, q4, q5, q6⟩ := id hsm
    have e3 : s₂ = ({ (U.calling g mk a).setFrames s₂.frames with heap := s₂.heap, slotsUsed := s₂.slotsUsed } : State).setVm s₂.vm := by
      have : s₂ = ({ s₂ with vm := (U.calling g mk a).vm } : State).setVm s₂.vm := rfl
      rw [e2] at this
      exact this
    have hf₂ : s₂.frames = .throwing q :: .java g :: U.frames.tail := hend
    have hW' : U.WarmedH s₂.vm := hW₂
    have hs₂ : s₂ = ((({ U with heap := s₂.heap, slotsUsed := s₂.slotsUsed } : State).setVm s₂.vm).setTop g).pushFrame (.throwing q) := by
      refine e3.trans ?_
      rw [hf₂, State.calling_eq h.top, State.setFrames_setFrames, State.pushFrame, State.frames_setTop _ hr', State.setTop_of_frames _ hr', State.setFrames_setFrames, hr]
      rfl
    have hsame : U.sameButNew ({ U with heap := s₂.heap, slotsUsed := s₂.slotsUsed } : State) L mc ms := by
      refine ⟨?_, q2, q3, q4, q5, q6⟩
      obtain ⟨t, ht, -⟩ := State.frames_cons hr
      show ({ U with heap := s₂.heap, slotsUsed := s₂.slotsUsed } : State) = { U.setFrames U.frames with heap := s₂.heap, slotsUsed := s₂.slotsUsed }
      rw [State.setFrames_self ht]
    subst hg
    refine Or.inr ⟨q, ⟨(({ U with heap := s₂.heap, slotsUsed := s₂.slotsUsed } : State).setVm s₂.vm), Ls ++ L, c0 + mc, s0 + ms⟩,
      ⟨X.admits, X.cas, X.clock, X.frames, X.room, X.hears, X.method, X.code, (X.here.setHeapUsed s₂.heap s₂.slotsUsed).setVm hW'.alike, X.tail, State.WarmedH.trans X.warmed hW', X.limits, X.bytes, X.same.trans (hsame.setVm s.vm)⟩,
      ⟨g, mk, s₂, L, E, ce, rfl, rfl, hx, hce, hcv, hcl, rfl, hL, rfl, rfl⟩, ?_⟩
    show Steps p.tables e below _ (((({ U with heap := s₂.heap, slotsUsed := s₂.slotsUsed } : State).setVm s₂.vm).setTop g).pushFrame (.throwing q))
    rw [← hs₂]
    exact hsteps
end Payer
section Calls
variable {p : Program} {l : Launch} {e : Env} {R : Room} {s : State} {m : MethodId} {args : Array Value} {below : List Frame} {meth : Method} {c : Code} {T : State} {locs : List Loc} {cells slots : Nat}
theorem vx_callV (X : Stand p l e R s m args below meth c T locs cells slots) (hexec : p.tables.exec = Jvm.exec) {own C : String} {index : Nat} {y : MethodName} {bytes : ByteArray} {maxL : Nat} {ret : Option FieldType}
    (hown : s.vm.findClass own = some m.cls) (hlink : (Cond.methodLink own index y).before args s = true) (hinst : (Cond.instanceMethod y).before args s = true) (hsel : (Cond.selects C y y).before args s = true)
    (hcode : (Cond.code y bytes maxL ret).before args s = true) (hy : y.cls ≠ "java/lang/invoke/MethodHandle" ∧ y.cls ≠ "java/lang/invoke/VarHandle")
    {W9 : Nat} {Pre : Pt → Array Value → Prop} {Post : Pt → Array Value → Option Value → Pt → Prop} {PostX : Pt → Array Value → Addr → Pt → Prop} (hK : vx_Back l R p e below s args y 3 W9 Pre Post PostX)
    {b : Addr} {cellB : Cell} (hcell : T.heap[b]? = some cellB) (hobj : cellB.vm.isStatics = false) (hcls : s.vm.findClass C = some cellB.cls)
    {g : JFrame} (hg : g.method = m) (hsize : g.locals.size = c.maxLocals) {argsL rest : List Value} (hlen : ∀ sig, parseMethodDescriptor y.desc = some sig → argsL.length = sig.parameters.length)
    (hstack : g.stack = argsL.reverse ++ .ref b :: rest) (hW : 2 * g.monitorRoom + (rest.map fun v => v.category).sum ≤ W9) (hdg : decode c.code g.pc = .ok (.invokevirtual index, 3))
    (hpre : ∀ vm₁, s.WarmedH vm₁ → Pre ⟨T.setVm vm₁, locs, cells, slots⟩ (Value.ref b :: argsL).toArray) :
    (∃ (v : Option Value) (vm₁ : Vm) (B : Pt), s.WarmedH vm₁ ∧ Stand p l e R s m args below meth c B.U B.locs B.cells B.slots ∧ Post ⟨T.setVm vm₁, locs, cells, slots⟩ (Value.ref b :: argsL).toArray v B ∧
      ∀ target, Steps p.tables e below (B.U.setTop { g with pc := g.pc + 3, stack := v.toList ++ rest }) target → Steps p.tables e below (T.setTop g) target) ∨
    (∃ (q : Addr) (vm₁ : Vm) (B : Pt), s.WarmedH vm₁ ∧ Stand p l e R s m args below meth c B.U B.locs B.cells B.slots ∧ PostX ⟨T.setVm vm₁, locs, cells, slots⟩ (Value.ref b :: argsL).toArray q B ∧
      Steps p.tables e below (T.setTop g) ((B.U.setTop { g with stack := rest }).pushFrame (.throwing q))) := by
  obtain ⟨mk, methM, hnamed, hmethM, hstM, habM⟩ := Cond.instanceMethod_spec hinst
  obtain ⟨methM', cM, hmethM', -, -, -, -, -, -, hsigM⟩ := Cond.code_spec hnamed hcode
  cases hmethM.symm.trans hmethM'
  obtain ⟨c2, r2, m2, q1, q2, q3, q4, kP, hkP, hkPi⟩ := Cond.selects_spec hsel
  cases hcls.symm.trans q1
  cases (State.methodFound?_of_named hnamed hy).symm.trans q2
  cases hnamed.symm.trans q3
  have hselP : selectMethod e.platform s.vm cellB.cls mk = .method mk := by rw [Launch.admits_selectMethod X.admits]; exact q4
  obtain ⟨vm₁, X₁, hstep₁⟩ := X.invokevirtual hexec hown hlink hnamed hmethM hstM hkP hkPi hy (a := b) (cell := cellB) hcell
    (fun z h => by rw [h] at hobj; cases hobj) hselP hmethM habM hkP hkPi (g := g) hg (argsL := argsL) (rest := rest) (hlen _ hsigM) hstack hdg
  rcases hK m meth c ⟨T.setVm vm₁, locs, cells, slots⟩ { g with stack := rest } (.invokevirtual index) mk (Value.ref b :: argsL).toArray X₁ hg hsize hdg hW (X₁.named hnamed) (hpre vm₁ X₁.warmed) with ⟨v, B, X', hpost, hsteps⟩ | ⟨q, B, X', hpost, hsteps⟩
  · exact Or.inl ⟨v, vm₁, B, X₁.warmed, X', hpost, fun target h => hstep₁ _ fun acts => by rw [doInvoke_state]; exact hsteps.trans h⟩
  · exact Or.inr ⟨q, vm₁, B, X₁.warmed, X', hpost, hstep₁ _ fun acts => by rw [doInvoke_state]; exact hsteps⟩
theorem vx_callS (X : Stand p l e R s m args below meth c T locs cells slots) (hexec : p.tables.exec = Jvm.exec) {own : String} {index : Nat} {y : MethodName} {bytes : ByteArray} {maxL : Nat} {ret : Option FieldType}
    (hown : s.vm.findClass own = some m.cls) (hlink : (Cond.methodLink own index y).before args s = true) (hstat : (Cond.static y).before args s = true) (hinit : (Cond.initialized y.cls).before args s = true)
    (hcode : (Cond.code y bytes maxL ret).before args s = true) (hy : y.cls ≠ "java/lang/invoke/MethodHandle" ∧ y.cls ≠ "java/lang/invoke/VarHandle")
    {W9 : Nat} {Pre : Pt → Array Value → Prop} {Post : Pt → Array Value → Option Value → Pt → Prop} {PostX : Pt → Array Value → Addr → Pt → Prop} (hK : vx_Back l R p e below s args y 3 W9 Pre Post PostX)
    {g : JFrame} (hg : g.method = m) (hsize : g.locals.size = c.maxLocals) {argsL rest : List Value} (hlen : ∀ sig, parseMethodDescriptor y.desc = some sig → argsL.length = sig.parameters.length)
    (hstack : g.stack = argsL.reverse ++ rest) (hW : 2 * g.monitorRoom + (rest.map fun v => v.category).sum ≤ W9) (hdg : decode c.code g.pc = .ok (.invokestatic index, 3))
    (hpre : ∀ vm₁, s.WarmedH vm₁ → Pre ⟨T.setVm vm₁, locs, cells, slots⟩ argsL.toArray) :
    (∃ (v : Option Value) (vm₁ : Vm) (B : Pt), s.WarmedH vm₁ ∧ Stand p l e R s m args below meth c B.U B.locs B.cells B.slots ∧ Post ⟨T.setVm vm₁, locs, cells, slots⟩ argsL.toArray v B ∧
      ∀ target, Steps p.tables e below (B.U.setTop { g with pc := g.pc + 3, stack := v.toList ++ rest }) target → Steps p.tables e below (T.setTop g) target) ∨
    (∃ (q : Addr) (vm₁ : Vm) (B : Pt), s.WarmedH vm₁ ∧ Stand p l e R s m args below meth c B.U B.locs B.cells B.slots ∧ PostX ⟨T.setVm vm₁, locs, cells, slots⟩ argsL.toArray q B ∧
      Steps p.tables e below (T.setTop g) ((B.U.setTop { g with stack := rest }).pushFrame (.throwing q))) := by
  obtain ⟨mk, hnamed⟩ := Cond.code_named hcode
  obtain ⟨methM, cM, hmethM, -, -, -, -, -, -, hsigM⟩ := Cond.code_spec hnamed hcode
  have hstatic : methM.isStatic = true := Cond.static_spec hnamed hmethM hstat
  obtain ⟨kP, hkP, -⟩ := className_of_methodNamed hnamed
  have hinitP : kP.init = .initialized := Cond.initialized_spec (findClass_of_methodNamed hnamed) hkP hinit
  obtain ⟨vm₁, X₁, hstep₁⟩ := X.invokestatic hexec hown hlink hnamed hmethM hstatic hkP hinitP hy (g := g) hg (argsL := argsL) (rest := rest) (hlen _ hsigM) hstack hdg
  rcases hK m meth c ⟨T.setVm vm₁, locs, cells, slots⟩ { g with stack := rest } (.invokestatic index) mk argsL.toArray X₁ hg hsize hdg hW (X₁.named hnamed) (hpre vm₁ X₁.warmed) with ⟨v, B, X', hpost, hsteps⟩ | ⟨q, B, X', hpost, hsteps⟩
  · exact Or.inl ⟨v, vm₁, B, X₁.warmed, X', hpost, fun target h => hstep₁ _ fun acts => by rw [doInvoke_state]; exact hsteps.trans h⟩
  · exact Or.inr ⟨q, vm₁, B, X₁.warmed, X', hpost, hstep₁ _ fun acts => by rw [doInvoke_state]; exact hsteps⟩
end Calls
theorem vx_cls {s : State} {T : State} {vm₁ : Vm} {E : String} {k : ClassId} (hW : s.WarmedH vm₁) (h : (T.setVm vm₁).vm.findClass E = some k) : s.vm.findClass E = some k := by
  have h1 : vm₁.findClass E = some k := h
  rw [hW.alike.findClass] at h1
  exact h1
/-- the method's frame g, with q thrown over it -/
def vx_W (p : Program) (l : Launch) (e : Env) (R : Room) (s : State) (m : MethodId) (args : Array Value) (below : List Frame) (meth : Method) (c : Code) (H : Heap) (locs : List Loc) (cells slots : Nat) (Q : State → Prop) (g : JFrame) (q : Addr) : Prop :=
  ∀ T : State, T.heap = H → Stand p l e R s m args below meth c T locs cells slots → ∃ t, Steps p.tables e below ((T.setTop g).pushFrame (.throwing q)) t ∧ Q t
def vx_Run (p : Program) (l : Launch) (e : Env) (R : Room) (s : State) (m : MethodId) (args : Array Value) (below : List Frame) (meth : Method) (c : Code) (H : Heap) (locs : List Loc) (cells slots mc ms : Nat) (g : JFrame) (rest : List Value) (Qa : State → Outcome → State → Prop) (XC : String → State → State → Prop) (free : Addr → Prop) : Prop :=
  ∀ T : State, T.heap = H → Stand p l e R s m args below meth c T locs cells slots →
    (∃ (v : Option Value) (st₀ t T' : State) (L : List Loc), st₀.heap = H ∧ Stand p l e R s m args below meth c T' (locs ++ L) (cells + mc) (slots + ms) ∧ (∀ q ∈ L, free q.base) ∧ T'.heap = t.heap ∧ T'.vm = t.vm ∧ Qa st₀ (.returned v) t ∧
      Goes p e below T g T' { g with pc := g.pc + 3, stack := v.toList ++ rest }) ∨
    (∃ (q : Addr) (st₀ t T' : State) (L : List Loc) (E : String) (ce : Cell), st₀.heap = H ∧ Stand p l e R s m args below meth c T' (locs ++ L) (cells + mc) (slots + ms) ∧ (∀ z ∈ L, free z.base) ∧ T'.heap = t.heap ∧ T'.vm = t.vm ∧ XC E st₀ t ∧ t.heap[q]? = some ce ∧ ce.vm = .none ∧ s.vm.findClass E = some ce.cls ∧
      Steps p.tables e below (T.setTop g) ((T'.setTop { g with stack := rest }).pushFrame (.throwing q)))
def vx_X {S : Type} (px : S → Prop) (B : String → S → State → Prop) (A : Nat → Prop) : String → State → State → Prop := fun E st t => ∃ u : S, px u ∧ B E u t ∧ va_F A st t
section Runs
variable {p : Program} {l : Launch} {e : Env} {R : Room} {s : State} {m : MethodId} {args : Array Value} {below : List Frame} {meth : Method} {c : Code} {H : Heap} {locs : List Loc} {cells slots : Nat}
variable {y : MethodName} {bytes cc : ByteArray} {maxL nL mc ms n index : Nat} {ret : Option FieldType} {ws : List Cond} {rm : Room} {Pc : Array Value → State → Prop} {Qc : Array Value → State → Outcome → State → Prop} {XC : String → State → State → Prop} {free : Addr → Prop} {Ts : List Cond} {own C : String} {b : Addr} {As rest : List Value} {g : JFrame}
theorem vx_callBack (cb : CallB R s args own index y bytes maxL ret ws rm mc ms n) (hM : vx_Met l y ws rm Pc Qc XC mc ms free) (hbl : FrameBlind Pc) : vx_Back l R p e below s args y 3 8 (PreOf R mc ms Pc) (PostOf Qc mc ms free) (vx_Post XC mc ms free) := by
  obtain ⟨hrc, hrs, hfr, hlo, hws, hcw, -, hini, -⟩ := cb
  exact vx_back (bytes := bytes) (maxL := maxL) (ret := ret) hM hbl hrc hrs hfr hlo hws hcw (fun a' U hW => word_at hW (Or.inl (by first | rfl | simp [Cond.onTables, Cond.keeps, Cond.steady])) hini)
theorem vx_runV (S : CallFix p m c cc nL s args Ts own) (hM : vx_Met l y ws rm Pc Qc XC mc ms free) (cw : CallW R s args own C index y bytes maxL ret ws rm mc ms n) (hp : PreV s H C b Pc As)
    (hg : g.method = m) (hn : As.length = n) (hsize : g.locals.size = nL) (hstack : g.stack = As.reverse ++ .ref b :: rest) (hW : 2 * g.monitorRoom + (rest.map fun v => v.category).sum ≤ 8) (hdg : decode cc g.pc = .ok (.invokevirtual index, 3)) (hf : cells + mc ≤ R.cells ∧ slots + ms ≤ R.slots) :
    vx_Run p l e R s m args below meth c H locs cells slots mc ms g rest (Qc (Value.ref b :: As).toArray) XC free := by
  have hK : vx_Back l R p e below s args y 3 8 (PreOf R mc ms Pc) (PostOf Qc mc ms free) (vx_Post XC mc ms free) := vx_callBack cw.1 hM hp.1
  obtain ⟨⟨-, -, -, -, -, -, hcode, -, hy, hlen, hl⟩, hin, hse⟩ := cw
  obtain ⟨hx, hb, hml, ho, -⟩ := S
  obtain ⟨-, ⟨cellB, hcB, hoB, hclB⟩, hPc⟩ := hp
  intro T hT X
  rcases vx_callV X hx (C := C) (bytes := bytes) (maxL := maxL) (ret := ret) ho hl hin hse hcode hy hK (by rw [hT]; exact hcB) hoB hclB hg (hsize.trans hml.symm) (argsL := As) (rest := rest) (fun sig h => hn.trans (hlen sig h)) hstack hW (by rw [hb]; exact hdg)
    (fun vm₁ hW₁ => ⟨hf.1, hf.2, hPc (T.setVm vm₁) hT hW₁⟩) with ⟨v, vm₁, ⟨U', l2, c2, s2⟩, hW₁, X', ⟨g', mk, t, L, e1, e2, hq, h1, hL, h2, h3⟩, st⟩ | ⟨q, vm₁, ⟨U', l2, c2, s2⟩, hW₁, X', ⟨g', mk, t, L, E, ce, e1, e2, hq, hce, hcv, hcl, h1, hL, h2, h3⟩, st⟩
  · dsimp only [Pt.U, Pt.locs, Pt.cells, Pt.slots] at X' e1 e2 h1 h2 h3 st
    subst h1; subst h2; subst h3
    exact Or.inl ⟨v, (T.setVm vm₁).calling g' mk (Value.ref b :: As).toArray, t, U', L, hT, X', hL, e1, e2, hq, st⟩
  · dsimp only [Pt.U, Pt.locs, Pt.cells, Pt.slots] at X' e1 e2 h1 h2 h3 st hcl
    subst h1; subst h2; subst h3
    exact Or.inr ⟨q, (T.setVm vm₁).calling g' mk (Value.ref b :: As).toArray, t, U', L, E, ce, hT, X', hL, e1, e2, hq, hce, hcv, vx_cls hW₁ hcl, st⟩
theorem vx_runS (S : CallFix p m c cc nL s args Ts own) (hM : vx_Met l y ws rm Pc Qc XC mc ms free) (cw : CallB R s args own index y bytes maxL ret ws rm mc ms n ∧ (Cond.static y).before args s = true) (hp : PreS s H Pc As)
    (hg : g.method = m) (hn : As.length = n) (hsize : g.locals.size = nL) (hstack : g.stack = As.reverse ++ rest) (hW : 2 * g.monitorRoom + (rest.map fun v => v.category).sum ≤ 8) (hdg : decode cc g.pc = .ok (.invokestatic index, 3)) (hf : cells + mc ≤ R.cells ∧ slots + ms ≤ R.slots) :
    vx_Run p l e R s m args below meth c H locs cells slots mc ms g rest (Qc As.toArray) XC free := by
  have hK : vx_Back l R p e below s args y 3 8 (PreOf R mc ms Pc) (PostOf Qc mc ms free) (vx_Post XC mc ms free) := vx_callBack cw.1 hM hp.1
  obtain ⟨⟨-, -, -, -, -, -, hcode, hini, hy, hlen, hl⟩, hstt⟩ := cw
  obtain ⟨hx, hb, hml, ho, -⟩ := S
  intro T hT X
  rcases vx_callS X hx (bytes := bytes) (maxL := maxL) (ret := ret) ho hl hstt hini hcode hy hK hg (hsize.trans hml.symm) (argsL := As) (rest := rest) (fun sig h => hn.trans (hlen sig h)) hstack hW (by rw [hb]; exact hdg)
    (fun vm₁ hW₁ => ⟨hf.1, hf.2, hp.2 (T.setVm vm₁) hT hW₁⟩) with ⟨v, vm₁, ⟨U', l2, c2, s2⟩, hW₁, X', ⟨g', mk, t, L, e1, e2, hq, h1, hL, h2, h3⟩, st⟩ | ⟨q, vm₁, ⟨U', l2, c2, s2⟩, hW₁, X', ⟨g', mk, t, L, E, ce, e1, e2, hq, hce, hcv, hcl, h1, hL, h2, h3⟩, st⟩
  · dsimp only [Pt.U, Pt.locs, Pt.cells, Pt.slots] at X' e1 e2 h1 h2 h3 st
    subst h1; subst h2; subst h3
    exact Or.inl ⟨v, (T.setVm vm₁).calling g' mk As.toArray, t, U', L, hT, X', hL, e1, e2, hq, st⟩
  · dsimp only [Pt.U, Pt.locs, Pt.cells, Pt.slots] at X' e1 e2 h1 h2 h3 st hcl
    subst h1; subst h2; subst h3
    exact Or.inr ⟨q, (T.setVm vm₁).calling g' mk As.toArray, t, U', L, E, ce, hT, X', hL, e1, e2, hq, hce, hcv, vx_cls hW₁ hcl, st⟩
end Runs
section Rows
variable {p : Program} {l : Launch} {e : Env} {R : Room} {s : State} {m : MethodId} {args : Array Value} {below : List Frame} {meth : Method} {c : Code} {H : Heap} {locs : List Loc} {cells slots : Nat} {Q : State → Prop}
variable {mc ms : Nat} {free : Addr → Prop} {A0 A1 : Nat → Prop} {H0 : Heap} {a : Array Value} {pc : Nat} {ls : Array Slot} {st0 rest : List Value}
theorem vx_keep {st₀ t T' : State} {L : List Loc} (h0 : st₀.heap = H) (e1 : T'.heap = t.heap) (hS : va_S A0 H0 H locs) (hA : ∀ q, q < H.size → A1 q → A0 q) (hf : ∀ q, free q → A0 q) (hL : ∀ q ∈ L, free q.base) (hF : va_F A1 st₀ t) :
    H.size ≤ T'.heap.size ∧ (∀ q : Nat, q < H.size → ¬ A1 q → T'.heap[q]? = H[q]?) ∧ va_S A0 H0 T'.heap (locs ++ L) := by
  obtain ⟨hz, hk⟩ := hF
  rw [h0] at hz hk
  exact ⟨by rw [e1]; exact hz, fun q h1 h2 => by rw [e1]; exact hk q h1 h2,
    ⟨Nat.le_trans hS.1 (by rw [e1]; exact hz), fun q h1 h2 => by rw [e1, hk q (Nat.lt_of_lt_of_le h1 hS.1) (fun z => h2 (hA q (Nat.lt_of_lt_of_le h1 hS.1) z))]; exact hS.2.1 q h1 h2, fun q hq => by
      rcases List.mem_append.mp hq with h | h
      · exact hS.2.2 q h
      · exact hf _ (hL q h)⟩⟩
theorem vx_calli {S SX : Type} {post : Int32 → S → Prop} {px : SX → Prop} {B : S → State → Prop} {BX : String → SX → State → Prop} {AX : Nat → Prop} (hr : vx_Run p l e R s m args below meth c H locs cells slots mc ms (F0 m pc ls st0) rest (va_Qi post B A1 a) (vx_X px BX AX) free) (hS : va_S A0 H0 H locs) (hA : ∀ q, q < H.size → A1 q → A0 q) (hf : ∀ q, free q → A0 q) (hAX : ∀ q, q < H.size → AX q → A0 q)
    (kx : ∀ (E : String) (ce : Cell) (q9 : Addr) (u : SX) (t : State) (H1 : Heap) (locs1 : List Loc), t.heap = H1 → s.vm.Alike t.vm → px u → BX E u t → H.size ≤ H1.size → (∀ q : Nat, q < H.size → ¬ AX q → H1[q]? = H[q]?) → va_S A0 H0 H1 locs1 → H1[q9]? = some ce → ce.vm = .none → s.vm.findClass E = some ce.cls → vx_W p l e R s m args below meth c H1 locs1 (cells + mc) (slots + ms) Q (F0 m pc ls rest) q9)
    (kk : ∀ (r : Int32) (u : S) (t : State) (H1 : Heap) (locs1 : List Loc), t.heap = H1 → s.vm.Alike t.vm → post r u → B u t → H.size ≤ H1.size → (∀ q : Nat, q < H.size → ¬ A1 q → H1[q]? = H[q]?) → va_S A0 H0 H1 locs1 → W p l e R s m args below meth c H1 locs1 (cells + mc) (slots + ms) Q (F0 m (pc + 3) ls (.int r :: rest))) : W p l e R s m args below meth c H locs cells slots Q (F0 m pc ls st0) := by
  intro T hT X
  rcases hr T hT X with ⟨v, st₀, t, T', L, h0, X', hL, e1, e2, ⟨⟨r, u, hv, hp, hb⟩, hF⟩, st⟩ | ⟨q, st₀, t, T', L, E, ce, h0, X', hL, e1, e2, ⟨u, hp, hb, hF⟩, hce, hcv, hcl, st⟩
  · cases hv
    obtain ⟨k1, k2, k3⟩ := vx_keep h0 e1 hS hA hf hL hF
    obtain ⟨t2, a1, b1⟩ := kk r u t T'.heap (locs ++ L) e1.symm (by rw [← e2]; exact X'.warmed.alike) hp hb k1 k2 k3 T' rfl X'
    exact ⟨t2, st t2 a1, b1⟩
  · obtain ⟨k1, k2, k3⟩ := vx_keep h0 e1 hS hAX hf hL hF
    obtain ⟨t2, a1, b1⟩ := kx E ce q u t T'.heap (locs ++ L) e1.symm (by rw [← e2]; exact X'.warmed.alike) hp hb k1 k2 k3 (by rw [e1]; exact hce) hcv hcl T' rfl X'
    exact ⟨t2, st.trans a1, b1⟩
theorem vx_calll {S SX : Type} {post : Int64 → S → Prop} {px : SX → Prop} {B : S → State → Prop} {BX : String → SX → State → Prop} {AX : Nat → Prop} (hr : vx_Run p l e R s m args below meth c H locs cells slots mc ms (F0 m pc ls st0) rest (va_Ql post B A1 a) (vx_X px BX AX) free) (hS : va_S A0 H0 H locs) (hA : ∀ q, q < H.size → A1 q → A0 q) (hf : ∀ q, free q → A0 q) (hAX : ∀ q, q < H.size → AX q → A0 q)
    (kx : ∀ (E : String) (ce : Cell) (q9 : Addr) (u : SX) (t : State) (H1 : Heap) (locs1 : List Loc), t.heap = H1 → s.vm.Alike t.vm → px u → BX E u t → H.size ≤ H1.size → (∀ q : Nat, q < H.size → ¬ AX q → H1[q]? = H[q]?) → va_S A0 H0 H1 locs1 → H1[q9]? = some ce → ce.vm = .none → s.vm.findClass E = some ce.cls → vx_W p l e R s m args below meth c H1 locs1 (cells + mc) (slots + ms) Q (F0 m pc ls rest) q9)
    (kk : ∀ (r : Int64) (u : S) (t : State) (H1 : Heap) (locs1 : List Loc), t.heap = H1 → s.vm.Alike t.vm → post r u → B u t → H.size ≤ H1.size → (∀ q : Nat, q < H.size → ¬ A1 q → H1[q]? = H[q]?) → va_S A0 H0 H1 locs1 → W p l e R s m args below meth c H1 locs1 (cells + mc) (slots + ms) Q (F0 m (pc + 3) ls (.long r :: rest))) : W p l e R s m args below meth c H locs cells slots Q (F0 m pc ls st0) := by
  intro T hT X
  rcases hr T hT X with ⟨v, st₀, t, T', L, h0, X', hL, e1, e2, ⟨⟨r, u, hv, hp, hb⟩, hF⟩, st⟩ | ⟨q, st₀, t, T', L, E, ce, h0, X', hL, e1, e2, ⟨u, hp, hb, hF⟩, hce, hcv, hcl, st⟩
  · cases hv
    obtain ⟨k1, k2, k3⟩ := vx_keep h0 e1 hS hA hf hL hF
    obtain ⟨t2, a1, b1⟩ := kk r u t T'.heap (locs ++ L) e1.symm (by rw [← e2]; exact X'.warmed.alike) hp hb k1 k2 k3 T' rfl X'
    exact ⟨t2, st t2 a1, b1⟩
  · obtain ⟨k1, k2, k3⟩ := vx_keep h0 e1 hS hAX hf hL hF
    obtain ⟨t2, a1, b1⟩ := kx E ce q u t T'.heap (locs ++ L) e1.symm (by rw [← e2]; exact X'.warmed.alike) hp hb k1 k2 k3 (by rw [e1]; exact hce) hcv hcl T' rfl X'
    exact ⟨t2, st.trans a1, b1⟩
theorem vx_callf {S SX : Type} {post : UInt32 → S → Prop} {px : SX → Prop} {B : S → State → Prop} {BX : String → SX → State → Prop} {AX : Nat → Prop} (hr : vx_Run p l e R s m args below meth c H locs cells slots mc ms (F0 m pc ls st0) rest (va_Qf post B A1 a) (vx_X px BX AX) free) (hS : va_S A0 H0 H locs) (hA : ∀ q, q < H.size → A1 q → A0 q) (hf : ∀ q, free q → A0 q) (hAX : ∀ q, q < H.size → AX q → A0 q)
    (kx : ∀ (E : String) (ce : Cell) (q9 : Addr) (u : SX) (t : State) (H1 : Heap) (locs1 : List Loc), t.heap = H1 → s.vm.Alike t.vm → px u → BX E u t → H.size ≤ H1.size → (∀ q : Nat, q < H.size → ¬ AX q → H1[q]? = H[q]?) → va_S A0 H0 H1 locs1 → H1[q9]? = some ce → ce.vm = .none → s.vm.findClass E = some ce.cls → vx_W p l e R s m args below meth c H1 locs1 (cells + mc) (slots + ms) Q (F0 m pc ls rest) q9)
    (kk : ∀ (r : UInt32) (u : S) (t : State) (H1 : Heap) (locs1 : List Loc), t.heap = H1 → s.vm.Alike t.vm → post r u → B u t → H.size ≤ H1.size → (∀ q : Nat, q < H.size → ¬ A1 q → H1[q]? = H[q]?) → va_S A0 H0 H1 locs1 → W p l e R s m args below meth c H1 locs1 (cells + mc) (slots + ms) Q (F0 m (pc + 3) ls (.float r :: rest))) : W p l e R s m args below meth c H locs cells slots Q (F0 m pc ls st0) := by
  intro T hT X
  rcases hr T hT X with ⟨v, st₀, t, T', L, h0, X', hL, e1, e2, ⟨⟨r, u, hv, hp, hb⟩, hF⟩, st⟩ | ⟨q, st₀, t, T', L, E, ce, h0, X', hL, e1, e2, ⟨u, hp, hb, hF⟩, hce, hcv, hcl, st⟩
  · cases hv
    obtain ⟨k1, k2, k3⟩ := vx_keep h0 e1 hS hA hf hL hF
    obtain ⟨t2, a1, b1⟩ := kk r u t T'.heap (locs ++ L) e1.symm (by rw [← e2]; exact X'.warmed.alike) hp hb k1 k2 k3 T' rfl X'
    exact ⟨t2, st t2 a1, b1⟩
  · obtain ⟨k1, k2, k3⟩ := vx_keep h0 e1 hS hAX hf hL hF
    obtain ⟨t2, a1, b1⟩ := kx E ce q u t T'.heap (locs ++ L) e1.symm (by rw [← e2]; exact X'.warmed.alike) hp hb k1 k2 k3 (by rw [e1]; exact hce) hcv hcl T' rfl X'
    exact ⟨t2, st.trans a1, b1⟩
theorem vx_calld {S SX : Type} {post : UInt64 → S → Prop} {px : SX → Prop} {B : S → State → Prop} {BX : String → SX → State → Prop} {AX : Nat → Prop} (hr : vx_Run p l e R s m args below meth c H locs cells slots mc ms (F0 m pc ls st0) rest (va_Qd post B A1 a) (vx_X px BX AX) free) (hS : va_S A0 H0 H locs) (hA : ∀ q, q < H.size → A1 q → A0 q) (hf : ∀ q, free q → A0 q) (hAX : ∀ q, q < H.size → AX q → A0 q)
    (kx : ∀ (E : String) (ce : Cell) (q9 : Addr) (u : SX) (t : State) (H1 : Heap) (locs1 : List Loc), t.heap = H1 → s.vm.Alike t.vm → px u → BX E u t → H.size ≤ H1.size → (∀ q : Nat, q < H.size → ¬ AX q → H1[q]? = H[q]?) → va_S A0 H0 H1 locs1 → H1[q9]? = some ce → ce.vm = .none → s.vm.findClass E = some ce.cls → vx_W p l e R s m args below meth c H1 locs1 (cells + mc) (slots + ms) Q (F0 m pc ls rest) q9)
    (kk : ∀ (r : UInt64) (u : S) (t : State) (H1 : Heap) (locs1 : List Loc), t.heap = H1 → s.vm.Alike t.vm → post r u → B u t → H.size ≤ H1.size → (∀ q : Nat, q < H.size → ¬ A1 q → H1[q]? = H[q]?) → va_S A0 H0 H1 locs1 → W p l e R s m args below meth c H1 locs1 (cells + mc) (slots + ms) Q (F0 m (pc + 3) ls (.double r :: rest))) : W p l e R s m args below meth c H locs cells slots Q (F0 m pc ls st0) := by
  intro T hT X
  rcases hr T hT X with ⟨v, st₀, t, T', L, h0, X', hL, e1, e2, ⟨⟨r, u, hv, hp, hb⟩, hF⟩, st⟩ | ⟨q, st₀, t, T', L, E, ce, h0, X', hL, e1, e2, ⟨u, hp, hb, hF⟩, hce, hcv, hcl, st⟩
  · cases hv
    obtain ⟨k1, k2, k3⟩ := vx_keep h0 e1 hS hA hf hL hF
    obtain ⟨t2, a1, b1⟩ := kk r u t T'.heap (locs ++ L) e1.symm (by rw [← e2]; exact X'.warmed.alike) hp hb k1 k2 k3 T' rfl X'
    exact ⟨t2, st t2 a1, b1⟩
  · obtain ⟨k1, k2, k3⟩ := vx_keep h0 e1 hS hAX hf hL hF
    obtain ⟨t2, a1, b1⟩ := kx E ce q u t T'.heap (locs ++ L) e1.symm (by rw [← e2]; exact X'.warmed.alike) hp hb k1 k2 k3 (by rw [e1]; exact hce) hcv hcl T' rfl X'
    exact ⟨t2, st.trans a1, b1⟩
theorem vx_callv {S SX : Type} {post : S → Prop} {px : SX → Prop} {B : S → State → Prop} {BX : String → SX → State → Prop} {AX : Nat → Prop} (hr : vx_Run p l e R s m args below meth c H locs cells slots mc ms (F0 m pc ls st0) rest (va_Qv post B A1 a) (vx_X px BX AX) free) (hS : va_S A0 H0 H locs) (hA : ∀ q, q < H.size → A1 q → A0 q) (hf : ∀ q, free q → A0 q) (hAX : ∀ q, q < H.size → AX q → A0 q)
    (kx : ∀ (E : String) (ce : Cell) (q9 : Addr) (u : SX) (t : State) (H1 : Heap) (locs1 : List Loc), t.heap = H1 → s.vm.Alike t.vm → px u → BX E u t → H.size ≤ H1.size → (∀ q : Nat, q < H.size → ¬ AX q → H1[q]? = H[q]?) → va_S A0 H0 H1 locs1 → H1[q9]? = some ce → ce.vm = .none → s.vm.findClass E = some ce.cls → vx_W p l e R s m args below meth c H1 locs1 (cells + mc) (slots + ms) Q (F0 m pc ls rest) q9)
    (kk : ∀ (u : S) (t : State) (H1 : Heap) (locs1 : List Loc), t.heap = H1 → s.vm.Alike t.vm → post u → B u t → H.size ≤ H1.size → (∀ q : Nat, q < H.size → ¬ A1 q → H1[q]? = H[q]?) → va_S A0 H0 H1 locs1 → W p l e R s m args below meth c H1 locs1 (cells + mc) (slots + ms) Q (F0 m (pc + 3) ls (rest))) : W p l e R s m args below meth c H locs cells slots Q (F0 m pc ls st0) := by
  intro T hT X
  rcases hr T hT X with ⟨v, st₀, t, T', L, h0, X', hL, e1, e2, ⟨⟨u, hv, hp, hb⟩, hF⟩, st⟩ | ⟨q, st₀, t, T', L, E, ce, h0, X', hL, e1, e2, ⟨u, hp, hb, hF⟩, hce, hcv, hcl, st⟩
  · cases hv
    obtain ⟨k1, k2, k3⟩ := vx_keep h0 e1 hS hA hf hL hF
    obtain ⟨t2, a1, b1⟩ := kk u t T'.heap (locs ++ L) e1.symm (by rw [← e2]; exact X'.warmed.alike) hp hb k1 k2 k3 T' rfl X'
    exact ⟨t2, st t2 a1, b1⟩
  · obtain ⟨k1, k2, k3⟩ := vx_keep h0 e1 hS hAX hf hL hF
    obtain ⟨t2, a1, b1⟩ := kx E ce q u t T'.heap (locs ++ L) e1.symm (by rw [← e2]; exact X'.warmed.alike) hp hb k1 k2 k3 (by rw [e1]; exact hce) hcv hcl T' rfl X'
    exact ⟨t2, st.trans a1, b1⟩
/-- caught by the row x of this method's table; the rows ahead don't take it -/
theorem vx_catch {own name : String} {E : String} {ce : Cell} {q : Addr} (hown : s.vm.findClass own = some m.cls) (pre : List ExceptionTableEntry) (x : ExceptionTableEntry) (suf : List ExceptionTableEntry) (hsplit : c.exceptionTable.toList = pre ++ x :: suf)
    (hpass : ∀ z ∈ pre, covers z pc = false ∨ (z.catchType ≠ 0 ∧ ∃ nm : String, (Cond.classLink own z.catchType nm).before args s = true ∧ va_Nc E nm s)) (hx : covers x pc = true) (h0 : x.catchType ≠ 0)
    (hlink : (Cond.classLink own x.catchType name).before args s = true) (hcast : (Cond.castable E name).before args s = true) (hcell : H[q]? = some ce) (hv : ce.vm = .none) (hcl : s.vm.findClass E = some ce.cls)
    (kk : W p l e R s m args below meth c H locs cells slots Q (F0 m x.handlerPc ls [.ref q])) : vx_W p l e R s m args below meth c H locs cells slots Q (F0 m pc ls rest) q := by
  intro T hT X
  have hpl : e.platform.magicAccessors = ({} : Platform).magicAccessors := by rw [X.admits.platform]
  obtain ⟨c3, c4, hc3, hc4, hasg⟩ := Cond.castable_spec hcast
  cases Option.some.inj (hc3.symm.trans hcl)
  obtain ⟨c5, hc5, hcl5⟩ := Cond.classLink_spec hown hlink e.platform hpl
  cases Option.some.inj (hc4.symm.trans hc5)
  obtain ⟨vm', X', st⟩ := X.thenCaughtThrough q (g := F0 m pc ls rest) rfl (Steps.refl _) (by rw [hT]; exact hcell) (by rw [hv]; rfl) (by obtain ⟨k9, h9, -⟩ := Vm.findClass_spec hcl; exact ⟨k9, h9⟩) pre x suf hsplit
    (fun z hz => by
      rcases hpass z hz with h | ⟨hz0, nm, hl1, hn1⟩
      · exact Or.inl h
      · obtain ⟨c6, hc6, hcl6⟩ := Cond.classLink_spec hown hl1 e.platform hpl
        obtain ⟨a8, b8, h1, h2, h3⟩ := hn1
        cases Option.some.inj (h1.symm.trans hcl)
        cases Option.some.inj (h2.symm.trans hc6)
        exact Or.inr ⟨hz0, _, hcl6, h3⟩) hx (Or.inr ⟨h0, c4, hcl5, hasg⟩)
  obtain ⟨t, a1, b1⟩ := kk (T.setVm vm') hT X'
  exact ⟨t, st.trans a1, b1⟩
end Rows
section Ends
variable {p : Program} {l : Launch} {e : Env} {R : Room} {s : State} {m : MethodId} {args : Array Value} {below : List Frame} {meth : Method} {c : Code} {H : Heap} {locs : List Loc} {cells slots : Nat} {Q : State → Prop}
variable {mc ms : Nat} {free : Addr → Prop} {A0 A1 : Nat → Prop} {H0 : Heap} {a : Array Value} {ls : Array Slot} {st0 rest : List Value}
variable {Qc : Array Value → State → Outcome → State → Prop} {XC : String → State → State → Prop}
/-- what a body that may throw owes at its end -/
def vx_MQ (below : List Frame) (Qc : Array Value → State → Outcome → State → Prop) (XC : String → State → State → Prop) (a : Array Value) (s : State) (mc ms : Nat) (free : Addr → Prop) : State → Prop := fun t =>
  ∃ o, t.status = .running ∧ Ended t below o ∧ vx_Q Qc XC mc ms free a s o t
theorem vx_ret {g : JFrame} {mc ms : Nat} (k : W p l e R s m args below meth c H locs cells slots (MQ below Qc args s mc ms free) g) : W p l e R s m args below meth c H locs cells slots (vx_MQ below Qc XC args s mc ms free) g := by
  intro T hT X
  obtain ⟨t, a1, o, b1, b2, b3, b4⟩ := k T hT X
  exact ⟨t, a1, o, b1, b2, Or.inl ⟨b3, b4⟩⟩
/-- not caught here: it goes on to the caller -/
theorem vx_widen {g : JFrame} {q : Addr} {k n : Nat} (h1 : cells ≤ k) (h2 : slots ≤ n) (kk : vx_W p l e R s m args below meth c H locs k n Q g q) : vx_W p l e R s m args below meth c H locs cells slots Q g q := fun T hT X => kk T hT (stand_widen X h1 h2)
theorem vx_out {pc : Nat} {E : String} {ce : Cell} {q : Addr} {mc ms : Nat} (hout : ∀ x ∈ c.exceptionTable.toList, covers x pc = false) (hlocks : meth.locks = false) (hcell : H[q]? = some ce) (hv : ce.vm = .none) (hcl : s.vm.findClass E = some ce.cls)
    (hx : ∀ t : State, t.heap = H → s.vm.Alike t.vm → XC E s t) (hf : ∀ z ∈ locs, free z.base) (hc : cells ≤ mc) (hs : slots ≤ ms) :
    vx_W p l e R s m args below meth c H locs cells slots (vx_MQ below Qc XC args s mc ms free) (F0 m pc ls rest) q := by
  intro T hT X
  obtain ⟨st1, hrun, hend, hW, hsm⟩ := X.leaveThrown q (g := F0 m pc ls rest) rfl rfl rfl hout hlocks
  have hcell9 : (T.setFrames (.throwing q :: below)).heap[q]? = some ce := by
    show T.heap[q]? = some ce
    rw [hT]; exact hcell
  exact ⟨_, st1, .threw q, hrun, hend, Or.inr ⟨q, rfl, E, ce, locs, hx _ hT hW.alike, hcell9, hv, hcl, hW, hsm.mono hc hs, hf⟩⟩
theorem vx_frame {U : State} {k n : Nat} (h : s.sameButNew ({ U with vm := s.vm } : State) locs k n) : s.heap.size ≤ U.heap.size ∧ ∀ q : Nat, q < s.heap.size → (∀ z ∈ locs, z.base ≠ q) → U.heap[q]? = s.heap[q]? := by
  obtain ⟨-, h2, -, -, -, h6⟩ := h
  refine ⟨h2, fun q hq hz => ?_⟩
  obtain ⟨c9, e1, e2, e3, e4⟩ := h6 q _ (Array.getElem?_eq_getElem hq)
  have hs : c9.slots = (s.heap[q]).slots := Array.ext_getElem? fun i => e4 i fun hm => hz _ hm rfl
  have h9 : c9 = s.heap[q] := by
    rw [hs] at e2
    exact e2
  have e5 : U.heap[q]? = some c9 := e1
  rw [e5, h9, Array.getElem?_eq_getElem hq]
/-- the words of a throw but the four that speak of the heap -/
def vx_no (w : Cond) : Bool := decide (w ≠ .isRef (.static Bundle.tN "UNASSIGNED_STACK" Bundle.steD)) && decide (w ≠ .isRef (.static Bundle.tN "SUPPRESSED_SENTINEL" Bundle.listD)) && decide (w ≠ .laysStatic Bundle.tN "UNASSIGNED_STACK" Bundle.steD) && decide (w ≠ .laysStatic Bundle.tN "SUPPRESSED_SENTINEL" Bundle.listD)
def vx_at0 (own : String) (ic : Nat) (X : String) (names : List String) : List Cond := (Bundle.ownAtoms0 own ic X names).filter vx_no
def vx_atS (own : String) (ic : Nat) (X : String) (names : List String) : List Cond := (Bundle.ownAtoms own ic X names).filter vx_no
/-- a word that the tables alone decide, or a good one -/
def vx_ot (w : Cond) : Bool := w.onTables || goodWord w
theorem vx_ot_at {args a' : Array Value} {s U : State} {w : Cond} (hW : s.WarmedH U.vm) (hvm : s.vm = U.vm) (hg : vx_ot w = true) (h : w.before args s = true) : w.before a' U = true := by
  simp only [vx_ot, Bool.or_eq_true] at hg
  rcases hg with hg | hg
  · exact va_tabs hg hvm h
  · exact word_at hW (good_of_word hg) h
/-- a list's words: the good ones out of the method's own list, the others by premises of their own -/
theorem vx_hat {args : Array Value} {s : State} {L B : List Cond} (h1 : ∀ w ∈ L.filter goodWord, w.before args s = true) (h2 : ∀ w ∈ L.filter (fun w => !goodWord w), w ∈ B) (h3 : ∀ w ∈ B, w.before args s = true) : ∀ w ∈ L, w.before args s = true := by
  intro w hw
  by_cases g : goodWord w = true
  · exact h1 w (List.mem_filter.mpr ⟨hw, g⟩)
  · refine h3 w (h2 w (List.mem_filter.mpr ⟨hw, ?_⟩))
    show (!goodWord w) = true
    cases hgw : goodWord w
    · rfl
    · exact absurd hgw g
theorem vx_c {args : Array Value} {s : State} {w : Cond} {B : List Cond} (h : w.before args s = true) (t : ∀ w ∈ B, w.before args s = true) : ∀ w' ∈ w :: B, w'.before args s = true := fun w' h' => (List.mem_cons.mp h').elim (fun e => by rw [e]; exact h) (t w')
theorem vx_n {args : Array Value} {s : State} : ∀ w ∈ ([] : List Cond), w.before args s = true := fun _ h => nomatch h
theorem vx_own {args : Array Value} {s : State} {L : List Cond} (h1 : ∀ w ∈ L.filter vx_no, w.before args s = true)
    (hU : (Cond.isRef (.static Bundle.tN "UNASSIGNED_STACK" Bundle.steD)).before args s = true) (hN : (Cond.isRef (.static Bundle.tN "SUPPRESSED_SENTINEL" Bundle.listD)).before args s = true)
    (lU : (Cond.laysStatic Bundle.tN "UNASSIGNED_STACK" Bundle.steD).before args s = true) (lN : (Cond.laysStatic Bundle.tN "SUPPRESSED_SENTINEL" Bundle.listD).before args s = true) : ∀ w ∈ L, w.before args s = true := by
  intro w hw
  by_cases e1 : w = .isRef (.static Bundle.tN "UNASSIGNED_STACK" Bundle.steD)
  · rw [e1]; exact hU
  · by_cases e2 : w = .isRef (.static Bundle.tN "SUPPRESSED_SENTINEL" Bundle.listD)
    · rw [e2]; exact hN
    · by_cases e3 : w = .laysStatic Bundle.tN "UNASSIGNED_STACK" Bundle.steD
      · rw [e3]; exact lU
      · by_cases e4 : w = .laysStatic Bundle.tN "SUPPRESSED_SENTINEL" Bundle.listD
        · rw [e4]; exact lN
        · exact h1 w (List.mem_filter.mpr ⟨hw, by unfold vx_no; rw [decide_eq_true e1, decide_eq_true e2, decide_eq_true e3, decide_eq_true e4]; rfl⟩)
/-- where a static field lies, its class's statics cell in H -/
def vx_L (C n d : String) (A : Nat → Prop) (U : State) (H : Heap) : Prop := ∃ (c : ClassId) (k : Class) (i : Nat) (f : Field) (a : Nat) (cell : Cell), U.vm.findClass C = some c ∧ U.fieldFound? C n d = some (c, k, i, f) ∧ f.isStatic = true ∧ k.statics = some a ∧ H[a]? = some cell ∧ cell.vm.isStatics = true ∧ cell.cls = c ∧ f.slot < cell.slots.size ∧ k.staticTypes[f.slot]? = some f.type ∧ ¬ A a
theorem vx_L.moved {C n d : String} {A : Nat → Prop} {u U : State} {H : Heap} (hvm : u.vm.Alike U.vm) (h : vx_L C n d A u H) : vx_L C n d A U H := by
  obtain ⟨c, k, i, f, a, cell, h1, h2, h3, h4, h5, h6, h7, h8, h9, h10⟩ := h
  obtain ⟨k', hi', he⟩ := State.fieldFound?_setVm hvm h2
  exact ⟨c, k', i, f, a, cell, by rw [hvm.findClass]; exact h1, hi', h3, by rw [he]; exact h4, h5, h6, h7, h8, by rw [he]; exact h9, h10⟩
theorem vx_L.kept {C n d : String} {A : Nat → Prop} {U : State} {H H1 : Heap} (h : vx_L C n d A U H) (hq : ∀ a : Nat, a < H.size → ¬ A a → H1[a]? = H[a]?) : vx_L C n d A U H1 := by
  obtain ⟨c, k, i, f, a, cell, h1, h2, h3, h4, h5, h6, h7, h8, h9, h10⟩ := h
  exact ⟨c, k, i, f, a, cell, h1, h2, h3, h4, by rw [hq a (Array.getElem?_eq_some_iff.mp h5).1 h10]; exact h5, h6, h7, h8, h9, h10⟩
theorem vx_L.narrow {C n d : String} {A B : Nat → Prop} {U : State} {H : Heap} (h : vx_L C n d A U H) (hAB : ∀ q, B q → A q) : vx_L C n d B U H := by
  obtain ⟨c, k, i, f, a, cell, h1, h2, h3, h4, h5, h6, h7, h8, h9, h10⟩ := h
  exact ⟨c, k, i, f, a, cell, h1, h2, h3, h4, h5, h6, h7, h8, h9, fun z => h10 (hAB _ z)⟩
theorem vx_L.word {C n d : String} {A : Nat → Prop} {s : State} {args : Array Value} (h : vx_L C n d A s s.heap) : (Cond.laysStatic C n d).before args s = true := by
  obtain ⟨c, k, i, f, a, cell, h1, h2, h3, h4, h5, h6, h7, h8, h9, -⟩ := h
  show (Cond.laysStatic C n d).holds args s none s [] = true
  exact Cond.laysStatic_of h1 h2 h3 h4 h5 h6 h7 h8 h9
/-- .. and what it holds: null or some reference -/
def vx_Zq (C n d : String) (A : Nat → Prop) (U : State) (H : Heap) : Prop := va_Zq C n d A U H ∧ vx_L C n d A U H
theorem vx_Zq.moved {C n d : String} {A : Nat → Prop} {u U : State} {H : Heap} (hvm : u.vm.Alike U.vm) (h : vx_Zq C n d A u H) : vx_Zq C n d A U H := ⟨va_Zq.moved hvm h.1, vx_L.moved hvm h.2⟩
theorem vx_Zq.kept {C n d : String} {A : Nat → Prop} {U : State} {H H1 : Heap} (h : vx_Zq C n d A U H) (hq : ∀ a : Nat, a < H.size → ¬ A a → H1[a]? = H[a]?) : vx_Zq C n d A U H1 := ⟨va_Zq.kept h.1 hq, vx_L.kept h.2 hq⟩
theorem vx_Zq.narrow {C n d : String} {A B : Nat → Prop} {U : State} {H : Heap} (h : vx_Zq C n d A U H) (hAB : ∀ q, B q → A q) : vx_Zq C n d B U H := ⟨va_Zq.narrow h.1 hAB, vx_L.narrow h.2 hAB⟩
theorem vx_Zqof {args : Array Value} {s : State} {C n d : String} {A : Nat → Prop} (hl : (Cond.laysStatic C n d).before args s = true) (hini : (Cond.initialized C).before args s = true) (h : (Cond.isRef (.static C n d)).before args s = true) (hA : ∀ a : Nat, a < s.heap.size → ¬ A a) : vx_Zq C n d A s s.heap := by
  refine ⟨va_Zqof hl hini h hA, ?_⟩
  obtain ⟨c, k, i, f, a, cell, h1, h2, h3, h4, h5, h6, h7, h8, h9⟩ := Cond.laysStatic_spec hl
  exact ⟨c, k, i, f, a, cell, h1, h2, h3, h4, h5, h6, h7, h8, h9, hA a (Array.getElem?_eq_some_iff.mp h5).1⟩
theorem vx_isRef {C n d : String} {v : Value} {A : Nat → Prop} {s : State} {args : Array Value} (h : va_Z C n d v A s s.heap) (hv : v.isRef = true) : (Cond.isRef (.static C n d)).before args s = true := by
  obtain ⟨cf, kf, fi, f, a, cell, h1, h2, h3, h4, h5, h6, h7, -⟩ := h
  have he : (Term.static C n d).eval args s none [] s = some v := by
    simp [Term.eval, State.fieldNamed?, h1, h2, h4, h5, h6, h7]
  simp only [Cond.before, Cond.holds, Cond.value, he]
  cases v <;> simp_all [Value.isRef]
theorem vx_isRefq {C n d : String} {A : Nat → Prop} {s : State} {args : Array Value} (h : va_Zq C n d A s s.heap) : (Cond.isRef (.static C n d)).before args s = true := by
  rcases h with h | ⟨t, h⟩
  · exact vx_isRef h rfl
  · exact vx_isRef h rfl
/-- the same frame, seen from here: as if the method were called anew in this heap -/
theorem vx_rebase {T : State} (X : Stand p l e R s m args below meth c T locs cells slots) {R' : Room} (hf : R'.frames ≤ R.frames) (hl : R'.locals ≤ R.locals) (hc : cells + R'.cells ≤ R.cells) (hs : slots + R'.slots ≤ R.slots) :
    Stand p l e R' ((T.setVm s.vm).setFrames (.invoking m args :: below)) m args below meth c T [] 0 0 := by
  have htop : (T.setVm s.vm).topJava?.isSome := X.here.top
  have hF : ((T.setVm s.vm).setFrames (.invoking m args :: below)).frames = .invoking m args :: below := State.frames_setFrames _ (State.cur_lt_of_top htop)
  obtain ⟨g₀, hg0⟩ := Option.isSome_iff_exists.mp htop
  obtain ⟨r, hr⟩ := State.topJava?_eq_some.mp hg0
  have hl9 : e.platform.stackLimits (T.setVm s.vm).me = e.platform.stackLimits s.me := X.limits
  have hb9 : (T.setVm s.vm).me.stackBytes = s.me.stackBytes := X.bytes
  refine ⟨X.admits, X.cas, X.clock, hF, ?_, X.hears, X.method, X.code, X.here, X.tail, X.warmed, ?_, ?_, ?_⟩
  · have h := X.room
    have hU : ((T.setVm s.vm).setFrames (.invoking m args :: below)).localsInUse = s.localsInUse := by
      rw [State.localsInUse_invoking hF (meth := meth) (c := c) X.method X.code, State.localsInUse_invoking X.frames X.method X.code]
    simp only [State.hasRoom, Bool.and_eq_true, decide_eq_true_eq] at h ⊢
    obtain ⟨⟨⟨⟨h1, h2, h3, h4, h5, h6⟩, h7⟩, h8⟩, h9⟩ := h
    rw [X.frames, List.length_cons] at h2 h3
    have q1 := X.heapSize
    have q2 := X.used
    simp only [hF, hU, List.length_cons, State.stackLimits_setFrames, State.stackBytes_setFrames, hl9, hb9]
    refine ⟨⟨⟨⟨by omega, by omega, by omega, by omega, by omega, h6⟩, ?_⟩, ?_⟩, X.book⟩
    · show T.heap.size + R'.cells ≤ e.platform.maxCells
      omega
    · show T.slotsUsed + R'.slots ≤ e.platform.maxSlots
      omega
  · rw [State.stackLimits_setFrames]; rfl
  · rw [State.stackBytes_setFrames]; rfl
  · refine ⟨?_, Nat.le_refl _, Nat.le_refl _, ?_, ?_, fun a c9 h9 => ⟨c9, h9, rfl, rfl, fun _ _ => rfl⟩⟩
    · obtain ⟨t, ht, -⟩ := State.frames_cons hr
      show T.setVm s.vm = { ((T.setVm s.vm).setFrames (.invoking m args :: below)).setFrames (T.setVm s.vm).frames with heap := T.heap, slotsUsed := T.slotsUsed }
      rw [State.setFrames_setFrames, State.setFrames_self ht]
      rfl
    · show T.slotsUsed = T.slotsUsed + ((T.heap.toList.drop T.heap.size).map (·.slots.size)).sum
      rw [List.drop_eq_nil_of_le (Nat.le_of_eq Array.length_toList)]
      rfl
    · show ((T.heap.toList.drop T.heap.size).map (·.slots.size)).sum ≤ 0
      rw [List.drop_eq_nil_of_le (Nat.le_of_eq Array.length_toList)]
      exact Nat.le_refl _
/-- 'throw new E()': new; dup; invokespecial; athrow -/
theorem vx_throw0 {cc : ByteArray} {pc : Nat} (hexec : p.tables.exec = Jvm.exec) (hb : c.code = cc) (hl : l.stackTraces = false) {own cls : String} {names : List String} {ik ic mc ms : Nat} {A : Nat → Prop}
    (hown : s.vm.findClass own = some m.cls) (hcls : Bundle.fit cls = true) (hnames : ∀ n ∈ names, Bundle.fit n = true)
    (hk : (Cond.classLink own ik cls).before args s = true) (hini : (Cond.initialized cls).before args s = true) (hat : ∀ w ∈ vx_at0 own ic cls names, w.before args s = true)
    (hgood : ∀ w ∈ Cond.classLink own ik cls :: Cond.initialized cls :: vx_at0 own ic cls names, vx_ot w = true)
    (hU : vx_Zq Bundle.tN "UNASSIGNED_STACK" Bundle.steD A s s.heap) (hN : vx_Zq Bundle.tN "SUPPRESSED_SENTINEL" Bundle.listD A s s.heap) (hS : va_S A s.heap H locs) (hsize : ls.size = c.maxLocals)
    (d0 : decode cc pc = .ok (.new ik, 3)) (d3 : decode cc (pc + 3) = .ok (.dup, 1)) (d4 : decode cc (pc + 4) = .ok (.invokespecial ic, 3)) (d7 : decode cc (pc + 7) = .ok (.athrow, 1))
    (hout : ∀ x ∈ c.exceptionTable.toList, covers x (pc + 7) = false)
    (hRframes : names.length + 3 < R.frames) (hRlocals : (rest.map fun v => v.category).sum + (13 * (names.length + 1) + 42) ≤ R.locals) (hRcells : cells + 1 ≤ R.cells) (hRslots : slots + 6 ≤ R.slots) (hlocks : meth.locks = false)
    (hx : ∀ t : State, s.vm.Alike t.vm → H.size ≤ t.heap.size → (∀ q : Nat, q < H.size → t.heap[q]? = H[q]?) → XC cls s t)
    (hf : ∀ z ∈ locs, free z.base) (hc : cells + 1 ≤ mc) (hs : slots + 6 ≤ ms) :
    W p l e R s m args below meth c H locs cells slots (vx_MQ below Qc XC args s mc ms free) (F0 m pc ls rest) := by
  intro T hT X
  have htr : e.platform.stackTraces = false := (show e.platform.stackTraces = l.stackTraces by rw [X.admits.platform]).trans hl
  have Y := vx_rebase X (R' := { frames := R.frames, locals := R.locals, cells := 1, slots := 6 }) (Nat.le_refl _) (Nat.le_refl _) hRcells hRslots
  obtain ⟨s', hA⟩ : ∃ z, z = (T.setVm s.vm).setFrames (.invoking m args :: below) := ⟨_, rfl⟩
  rw [← hA] at Y
  have hvm : s'.vm = s.vm := by rw [hA]; rfl
  have hhp : s'.heap = H := by rw [hA]; exact hT
  have hW0 : s.WarmedH s'.vm := by rw [hvm]; exact State.WarmedH.refl s
  have hat' : ∀ w ∈ vx_at0 own ic cls names, w.before args s' = true := fun w hw => vx_ot_at hW0 hvm.symm (hgood w (List.mem_cons_of_mem _ (List.mem_cons_of_mem _ hw))) (hat w hw)
  have hk' : (Cond.classLink own ik cls).before args s' = true := vx_ot_at hW0 hvm.symm (hgood _ List.mem_cons_self) hk
  have hini' : (Cond.initialized cls).before args s' = true := vx_ot_at hW0 hvm.symm (hgood _ (List.mem_cons_of_mem _ List.mem_cons_self)) hini
  have hU' : vx_Zq Bundle.tN "UNASSIGNED_STACK" Bundle.steD A s' s'.heap := by rw [hhp]; exact vx_Zq.moved hW0.alike (hU.kept hS.2.1)
  have hN' : vx_Zq Bundle.tN "SUPPRESSED_SENTINEL" Bundle.listD A s' s'.heap := by rw [hhp]; exact vx_Zq.moved hW0.alike (hN.kept hS.2.1)
  have h : ∀ w ∈ Bundle.ownAtoms0 own ic cls names, w.before args s' = true := vx_own hat' (vx_isRefq hU'.1) (vx_isRefq hN'.1) hU'.2.word hN'.2.word
  have hown' : s'.vm.findClass own = some m.cls := by rw [hvm]; exact hown
  have hins : (Cond.instantiable cls 6).before args s' = true := h _ (by simp [Bundle.ownAtoms0])
  obtain ⟨vm₁, cX, kX, hfX, hkX, -, -, X₁, st1⟩ := Y.newCold hexec (own := own) (C := cls) (index := ik) (n := 6) hown' hk' hins hini'
    (g := F0 m pc ls rest) rfl (by rw [hb]; exact d0) (Nat.le_refl _) (Nat.le_refl _)
  generalize hT1 : (T.setVm vm₁).pushCell { cls := cX, slots := kX.instanceTypes.map defaultValue, vm := .none } = T1 at X₁ st1
  have hcat : (Value.ref T.heap.size).category = 1 := rfl
  have hcellA : T1.heap[T.heap.size]? = some (freshCell cX kX) := by rw [← hT1]; exact State.heap_pushCell_size _ _
  have d3' : decode c.code (pc + 3) = .ok (.dup, 1) := by rw [hb]; exact d3
  obtain ⟨U, hsteps, hrun, hend, hW, hsame, ce, hce, hO⟩ := X₁.ctorThrow0 hexec htr (own := own) (cls := cls) (names := names) (ic := ic) hown' hcls hnames h (fun x hx => nomatch hx) hfX hkX hcellA (by rw [hhp, hT]; exact Nat.le_refl _)
    (g := { method := m, pc := pc + 4, locals := ls, stack := .ref T.heap.size :: .ref T.heap.size :: rest, locked := none }) rfl hsize rfl rfl (rest := rest) rfl
    (by rw [hb]; exact d4) (by rw [hb]; exact d7) hout hRframes (by simp only [List.map_cons, List.sum_cons, hcat]; omega) hlocks
  obtain ⟨f1, f2⟩ := vx_frame hsame
  rw [hhp] at f1 f2
  have hWs : s.WarmedH U.vm := State.WarmedH.trans hW0 hW
  have hcl : s.vm.findClass cls = some ce.cls := by
    have h9 := hO.cls
    rw [hvm] at h9
    exact h9
  have hall : s.sameButNew ({ U with vm := s.vm } : State) locs mc ms := by
    subst hA
    obtain ⟨e1, e2⟩ := hsame
    rw [State.setFrames_setFrames] at e1
    have h2 : (T.setVm s.vm).sameButNew ({ U with vm := s.vm } : State) [] (0 + 1) (0 + 6) := ⟨e1, e2⟩
    have h3 := X.same.trans h2
    rw [List.append_nil] at h3
    exact h3.mono hc hs
  refine ⟨U, ?_, .threw T.heap.size, hrun, hend, Or.inr ⟨T.heap.size, rfl, cls, ce, locs, hx U hWs.alike f1 (fun q hq => f2 q hq (fun z hz => nomatch hz)), hce, hO.vm, hcl, hWs, hall, hf⟩⟩
  refine st1 _ ?_
  show Steps p.tables e below (T1.setTop { method := m, pc := pc + 3, locals := ls, stack := .ref T.heap.size :: rest, locked := none }) _
  jvm_step X₁.here [X₁.here.top, hexec, d3', Value.category]
  exact hsteps
/-- 'throw new E("text")': new; dup; ldc; invokespecial; athrow -/
theorem vx_throwS {cc : ByteArray} {pc : Nat} (hexec : p.tables.exec = Jvm.exec) (hb : c.code = cc) (hl : l.stackTraces = false) {own cls text : String} {names : List String} {ik is ic mc ms sa : Nat} {A : Nat → Prop}
    (hown : s.vm.findClass own = some m.cls) (hcls : Bundle.fit cls = true) (hnames : ∀ n ∈ names, Bundle.fit n = true)
    (hk : (Cond.classLink own ik cls).before args s = true) (hini : (Cond.initialized cls).before args s = true) (hstr : vk_R own is text sa s) (hat : ∀ w ∈ vx_atS own ic cls names, w.before args s = true)
    (hgood : ∀ w ∈ Cond.classLink own ik cls :: Cond.initialized cls :: vx_atS own ic cls names, vx_ot w = true)
    (hU : vx_Zq Bundle.tN "UNASSIGNED_STACK" Bundle.steD A s s.heap) (hN : vx_Zq Bundle.tN "SUPPRESSED_SENTINEL" Bundle.listD A s s.heap) (hS : va_S A s.heap H locs) (hsize : ls.size = c.maxLocals)
    (d0 : decode cc pc = .ok (.new ik, 3)) (d3 : decode cc (pc + 3) = .ok (.dup, 1)) (d4 : decode cc (pc + 4) = .ok (.ldc is, 2)) (d6 : decode cc (pc + 6) = .ok (.invokespecial ic, 3)) (d9 : decode cc (pc + 9) = .ok (.athrow, 1))
    (hout : ∀ x ∈ c.exceptionTable.toList, covers x (pc + 9) = false)
    (hRframes : names.length + 3 < R.frames) (hRlocals : (rest.map fun v => v.category).sum + (13 * (names.length + 1) + 43) ≤ R.locals) (hRcells : cells + 1 ≤ R.cells) (hRslots : slots + 6 ≤ R.slots) (hlocks : meth.locks = false)
    (hx : ∀ t : State, s.vm.Alike t.vm → H.size ≤ t.heap.size → (∀ q : Nat, q < H.size → t.heap[q]? = H[q]?) → XC cls s t)
    (hf : ∀ z ∈ locs, free z.base) (hc : cells + 1 ≤ mc) (hs : slots + 6 ≤ ms) :
    W p l e R s m args below meth c H locs cells slots (vx_MQ below Qc XC args s mc ms free) (F0 m pc ls rest) := by
  intro T hT X
  have htr : e.platform.stackTraces = false := (show e.platform.stackTraces = l.stackTraces by rw [X.admits.platform]).trans hl
  have Y := vx_rebase X (R' := { frames := R.frames, locals := R.locals, cells := 1, slots := 6 }) (Nat.le_refl _) (Nat.le_refl _) hRcells hRslots
  obtain ⟨s', hA⟩ : ∃ z, z = (T.setVm s.vm).setFrames (.invoking m args :: below) := ⟨_, rfl⟩
  rw [← hA] at Y
  have hvm : s'.vm = s.vm := by rw [hA]; rfl
  have hhp : s'.heap = H := by rw [hA]; exact hT
  have hW0 : s.WarmedH s'.vm := by rw [hvm]; exact State.WarmedH.refl s
  have hat' : ∀ w ∈ vx_atS own ic cls names, w.before args s' = true := fun w hw => vx_ot_at hW0 hvm.symm (hgood w (List.mem_cons_of_mem _ (List.mem_cons_of_mem _ hw))) (hat w hw)
  have hk' : (Cond.classLink own ik cls).before args s' = true := vx_ot_at hW0 hvm.symm (hgood _ List.mem_cons_self) hk
  have hini' : (Cond.initialized cls).before args s' = true := vx_ot_at hW0 hvm.symm (hgood _ (List.mem_cons_of_mem _ List.mem_cons_self)) hini
  have hU' : vx_Zq Bundle.tN "UNASSIGNED_STACK" Bundle.steD A s' s'.heap := by rw [hhp]; exact vx_Zq.moved hW0.alike (hU.kept hS.2.1)
  have hN' : vx_Zq Bundle.tN "SUPPRESSED_SENTINEL" Bundle.listD A s' s'.heap := by rw [hhp]; exact vx_Zq.moved hW0.alike (hN.kept hS.2.1)
  have h : ∀ w ∈ Bundle.ownAtoms own ic cls names, w.before args s' = true := vx_own hat' (vx_isRefq hU'.1) (vx_isRefq hN'.1) hU'.2.word hN'.2.word
  have hown' : s'.vm.findClass own = some m.cls := by rw [hvm]; exact hown
  have hins : (Cond.instantiable cls 6).before args s' = true := h _ (by simp [Bundle.ownAtoms])
  obtain ⟨vm₁, cX, kX, hfX, hkX, -, -, X₁, st1⟩ := Y.newCold hexec (own := own) (C := cls) (index := ik) (n := 6) hown' hk' hins hini'
    (g := F0 m pc ls rest) rfl (by rw [hb]; exact d0) (Nat.le_refl _) (Nat.le_refl _)
  generalize hT1 : (T.setVm vm₁).pushCell { cls := cX, slots := kX.instanceTypes.map defaultValue, vm := .none } = T1 at X₁ st1
  have hcat : (Value.ref T.heap.size).category = 1 := rfl
  have hcellA : T1.heap[T.heap.size]? = some (freshCell cX kX) := by rw [← hT1]; exact State.heap_pushCell_size _ _
  have d3' : decode c.code (pc + 3) = .ok (.dup, 1) := by rw [hb]; exact d3
  have d4' : decode c.code (pc + 4) = .ok (.ldc is, 2) := by rw [hb]; exact d4
  have hstr' : vk_R own is text sa s' := vk_R.warm hW0 hstr
  obtain ⟨U, hsteps, hrun, hend, hW, hsame, ce, hce, hO⟩ := X₁.ctorThrowS hexec htr (own := own) (cls := cls) (names := names) (ic := ic) hown' hcls hnames h (fun x hx => nomatch hx) hfX hkX hcellA (by rw [hhp, hT]; exact Nat.le_refl _) (msg := .ref sa) rfl
    (g := { method := m, pc := pc + 6, locals := ls, stack := .ref sa :: .ref T.heap.size :: .ref T.heap.size :: rest, locked := none }) rfl hsize rfl rfl (rest := rest) rfl
    (by rw [hb]; exact d6) (by rw [hb]; exact d9) hout hRframes (by simp only [List.map_cons, List.sum_cons, hcat]; omega) hlocks
  obtain ⟨f1, f2⟩ := vx_frame hsame
  rw [hhp] at f1 f2
  have hWs : s.WarmedH U.vm := State.WarmedH.trans hW0 hW
  have hcl : s.vm.findClass cls = some ce.cls := by
    have h9 := hO.cls
    rw [hvm] at h9
    exact h9
  have hall : s.sameButNew ({ U with vm := s.vm } : State) locs mc ms := by
    subst hA
    obtain ⟨e1, e2⟩ := hsame
    rw [State.setFrames_setFrames] at e1
    have h2 : (T.setVm s.vm).sameButNew ({ U with vm := s.vm } : State) [] (0 + 1) (0 + 6) := ⟨e1, e2⟩
    have h3 := X.same.trans h2
    rw [List.append_nil] at h3
    exact h3.mono hc hs
  refine ⟨U, ?_, .threw T.heap.size, hrun, hend, Or.inr ⟨T.heap.size, rfl, cls, ce, locs, hx U hWs.alike f1 (fun q hq => f2 q hq (fun z hz => nomatch hz)), hce, hO.vm, hcl, hWs, hall, hf⟩⟩
  refine st1 _ ?_
  show Steps p.tables e below (T1.setTop { method := m, pc := pc + 3, locals := ls, stack := .ref T.heap.size :: rest, locked := none }) _
  jvm_step X₁.here [X₁.here.top, hexec, d3', Value.category]
  exact X₁.ldcString hexec (own := own) (text := text) (index := is) (a := sa) hown' hstr'.1 hstr'.2
    (g := { method := m, pc := pc + 4, locals := ls, stack := .ref T.heap.size :: .ref T.heap.size :: rest, locked := none }) rfl d4' _ hsteps
/-- 'throw new E("text")', the text by a wide index -/
theorem vx_throwSW {cc : ByteArray} {pc : Nat} (hexec : p.tables.exec = Jvm.exec) (hb : c.code = cc) (hl : l.stackTraces = false) {own cls text : String} {names : List String} {ik is ic mc ms sa : Nat} {A : Nat → Prop}
    (hown : s.vm.findClass own = some m.cls) (hcls : Bundle.fit cls = true) (hnames : ∀ n ∈ names, Bundle.fit n = true)
    (hk : (Cond.classLink own ik cls).before args s = true) (hini : (Cond.initialized cls).before args s = true) (hstr : vk_R own is text sa s) (hat : ∀ w ∈ vx_atS own ic cls names, w.before args s = true)
    (hgood : ∀ w ∈ Cond.classLink own ik cls :: Cond.initialized cls :: vx_atS own ic cls names, vx_ot w = true)
    (hU : vx_Zq Bundle.tN "UNASSIGNED_STACK" Bundle.steD A s s.heap) (hN : vx_Zq Bundle.tN "SUPPRESSED_SENTINEL" Bundle.listD A s s.heap) (hS : va_S A s.heap H locs) (hsize : ls.size = c.maxLocals)
    (d0 : decode cc pc = .ok (.new ik, 3)) (d3 : decode cc (pc + 3) = .ok (.dup, 1)) (d4 : decode cc (pc + 4) = .ok (.ldc_w is, 3)) (d7 : decode cc (pc + 7) = .ok (.invokespecial ic, 3)) (d10 : decode cc (pc + 10) = .ok (.athrow, 1))
    (hout : ∀ x ∈ c.exceptionTable.toList, covers x (pc + 10) = false)
    (hRframes : names.length + 3 < R.frames) (hRlocals : (rest.map fun v => v.category).sum + (13 * (names.length + 1) + 43) ≤ R.locals) (hRcells : cells + 1 ≤ R.cells) (hRslots : slots + 6 ≤ R.slots) (hlocks : meth.locks = false)
    (hx : ∀ t : State, s.vm.Alike t.vm → H.size ≤ t.heap.size → (∀ q : Nat, q < H.size → t.heap[q]? = H[q]?) → XC cls s t)
    (hf : ∀ z ∈ locs, free z.base) (hc : cells + 1 ≤ mc) (hs : slots + 6 ≤ ms) :
    W p l e R s m args below meth c H locs cells slots (vx_MQ below Qc XC args s mc ms free) (F0 m pc ls rest) := by
  intro T hT X
  have htr : e.platform.stackTraces = false := (show e.platform.stackTraces = l.stackTraces by rw [X.admits.platform]).trans hl
  have Y := vx_rebase X (R' := { frames := R.frames, locals := R.locals, cells := 1, slots := 6 }) (Nat.le_refl _) (Nat.le_refl _) hRcells hRslots
  obtain ⟨s', hA⟩ : ∃ z, z = (T.setVm s.vm).setFrames (.invoking m args :: below) := ⟨_, rfl⟩
  rw [← hA] at Y
  have hvm : s'.vm = s.vm := by rw [hA]; rfl
  have hhp : s'.heap = H := by rw [hA]; exact hT
  have hW0 : s.WarmedH s'.vm := by rw [hvm]; exact State.WarmedH.refl s
  have hat' : ∀ w ∈ vx_atS own ic cls names, w.before args s' = true := fun w hw => vx_ot_at hW0 hvm.symm (hgood w (List.mem_cons_of_mem _ (List.mem_cons_of_mem _ hw))) (hat w hw)
  have hk' : (Cond.classLink own ik cls).before args s' = true := vx_ot_at hW0 hvm.symm (hgood _ List.mem_cons_self) hk
  have hini' : (Cond.initialized cls).before args s' = true := vx_ot_at hW0 hvm.symm (hgood _ (List.mem_cons_of_mem _ List.mem_cons_self)) hini
  have hU' : vx_Zq Bundle.tN "UNASSIGNED_STACK" Bundle.steD A s' s'.heap := by rw [hhp]; exact vx_Zq.moved hW0.alike (hU.kept hS.2.1)
  have hN' : vx_Zq Bundle.tN "SUPPRESSED_SENTINEL" Bundle.listD A s' s'.heap := by rw [hhp]; exact vx_Zq.moved hW0.alike (hN.kept hS.2.1)
  have h : ∀ w ∈ Bundle.ownAtoms own ic cls names, w.before args s' = true := vx_own hat' (vx_isRefq hU'.1) (vx_isRefq hN'.1) hU'.2.word hN'.2.word
  have hown' : s'.vm.findClass own = some m.cls := by rw [hvm]; exact hown
  have hins : (Cond.instantiable cls 6).before args s' = true := h _ (by simp [Bundle.ownAtoms])
  obtain ⟨vm₁, cX, kX, hfX, hkX, -, -, X₁, st1⟩ := Y.newCold hexec (own := own) (C := cls) (index := ik) (n := 6) hown' hk' hins hini'
    (g := F0 m pc ls rest) rfl (by rw [hb]; exact d0) (Nat.le_refl _) (Nat.le_refl _)
  generalize hT1 : (T.setVm vm₁).pushCell { cls := cX, slots := kX.instanceTypes.map defaultValue, vm := .none } = T1 at X₁ st1
  have hcat : (Value.ref T.heap.size).category = 1 := rfl
  have hcellA : T1.heap[T.heap.size]? = some (freshCell cX kX) := by rw [← hT1]; exact State.heap_pushCell_size _ _
  have d3' : decode c.code (pc + 3) = .ok (.dup, 1) := by rw [hb]; exact d3
  have d4' : decode c.code (pc + 4) = .ok (.ldc_w is, 3) := by rw [hb]; exact d4
  have hstr' : vk_R own is text sa s' := vk_R.warm hW0 hstr
  obtain ⟨U, hsteps, hrun, hend, hW, hsame, ce, hce, hO⟩ := X₁.ctorThrowS hexec htr (own := own) (cls := cls) (names := names) (ic := ic) hown' hcls hnames h (fun x hx => nomatch hx) hfX hkX hcellA (by rw [hhp, hT]; exact Nat.le_refl _) (msg := .ref sa) rfl
    (g := { method := m, pc := pc + 7, locals := ls, stack := .ref sa :: .ref T.heap.size :: .ref T.heap.size :: rest, locked := none }) rfl hsize rfl rfl (rest := rest) rfl
    (by rw [hb]; exact d7) (by rw [hb]; exact d10) hout hRframes (by simp only [List.map_cons, List.sum_cons, hcat]; omega) hlocks
  obtain ⟨f1, f2⟩ := vx_frame hsame
  rw [hhp] at f1 f2
  have hWs : s.WarmedH U.vm := State.WarmedH.trans hW0 hW
  have hcl : s.vm.findClass cls = some ce.cls := by
    have h9 := hO.cls
    rw [hvm] at h9
    exact h9
  have hall : s.sameButNew ({ U with vm := s.vm } : State) locs mc ms := by
    subst hA
    obtain ⟨e1, e2⟩ := hsame
    rw [State.setFrames_setFrames] at e1
    have h2 : (T.setVm s.vm).sameButNew ({ U with vm := s.vm } : State) [] (0 + 1) (0 + 6) := ⟨e1, e2⟩
    have h3 := X.same.trans h2
    rw [List.append_nil] at h3
    exact h3.mono hc hs
  refine ⟨U, ?_, .threw T.heap.size, hrun, hend, Or.inr ⟨T.heap.size, rfl, cls, ce, locs, hx U hWs.alike f1 (fun q hq => f2 q hq (fun z hz => nomatch hz)), hce, hO.vm, hcl, hWs, hall, hf⟩⟩
  refine st1 _ ?_
  show Steps p.tables e below (T1.setTop { method := m, pc := pc + 3, locals := ls, stack := .ref T.heap.size :: rest, locked := none }) _
  jvm_step X₁.here [X₁.here.top, hexec, d3', Value.category]
  exact X₁.ldcStringW hexec (own := own) (text := text) (index := is) (a := sa) hown' hstr'.1 hstr'.2
    (g := { method := m, pc := pc + 4, locals := ls, stack := .ref T.heap.size :: .ref T.heap.size :: rest, locked := none }) rfl d4' _ hsteps
end Ends
section Bodies
variable {l : Launch}
theorem vx_ofW {y : MethodName} {ws ws' : List Cond} {rm : Room} {Pc : Array Value → State → Prop} {Qc : Array Value → State → Outcome → State → Prop} {XC : String → State → State → Prop} {mc ms : Nat} {free : Addr → Prop} {cc : ByteArray} {maxL : Nat} {ret : Option FieldType}
    (hy : plainName y.cls = true) (hw : ws = Cond.code y cc maxL ret :: ws')
    (body : ∀ p e s m args below meth c s₁, BodyLoose p l y (headSpec ws rm) cc maxL ret e s m args below meth c s₁ → c.maxLocals = maxL → (∀ x ∈ c.exceptionTable.toList, False) → Pc args s →
      W p l e (headSpec ws rm).room s m args below meth c s.heap [] 0 0 (vx_MQ below Qc XC args s mc ms free) (entryFrame m args maxL)) : vx_Met l y ws rm Pc Qc XC mc ms free := by
  refine MetFree.of_bodyS (code := cc) (maxLocals := maxL) (ret := ret) hy ?_ ?_
  · intro args s m h hn
    obtain ⟨meth, c, h1, h2, h3, h4, h5, h6, -, -⟩ := Cond.code_spec hn (atoms_spec (ws := ws) h _ (by rw [hw]; exact List.mem_cons_self))
    exact ⟨meth, c, h1, h2, h3, h4, h5, h6⟩
  · intro p e s m args below meth c s₁ B hml hP _
    have hh0 : s₁.heap = s.heap := by rw [B.state]; rfl
    have ht : ∀ x ∈ c.exceptionTable.toList, False := by
      obtain ⟨meth9, c9, h1, h2, -, -, -, -, h7, -⟩ := Cond.code_spec B.named (atoms_spec (ws := ws) B.pre _ (by rw [hw]; exact List.mem_cons_self))
      cases Option.some.inj (h1.symm.trans B.method)
      cases Option.some.inj (h2.symm.trans (Stand.of_body B).code)
      intro x hx
      rw [Array.isEmpty_iff.mp h7] at hx
      cases hx
    obtain ⟨t, a1, o, b1, b2, b3⟩ := body p e s m args below meth c s₁ B hml ht hP s₁ hh0 (Stand.of_body B)
    exact ⟨t, o, a1, b1, b2, b3⟩
/-- the table of a body with handlers -/
theorem vx_table {p : Program} {x y : MethodName} {S : Spec} {cc bytes : ByteArray} {maxL maxL' : Nat} {ret ret' : Option FieldType} {e : Env} {s s₁ : State} {m : MethodId} {args : Array Value} {below : List Frame} {meth : Method} {c : Code} {hh : List (Nat × Nat × Nat × Nat)}
    (B : BodyLoose p l y S cc maxL ret e s m args below meth c s₁) (h : (Cond.codeWith y bytes maxL' ret' hh).before args s = true) : c.exceptionTable.toList = tableOf hh := by
  obtain ⟨m9, meth9, c9, hn9, h1, h2, -, -, h6, -⟩ := Cond.codeWith_spec h
  cases Option.some.inj (hn9.symm.trans B.named)
  cases Option.some.inj (h1.symm.trans B.method)
  cases Option.some.inj (h2.symm.trans (Stand.of_body B).code)
  rw [← h6, table_eq]
end Bodies
end VXA
/-! ===== END ===== -/
/-! ===== BEGIN a static call of a method with an exception table ===== -/
section VXS
variable {p : Program} {l : Launch} {e : Env} {R : Room} {s : State} {m : MethodId} {args : Array Value} {below : List Frame} {meth : Method} {c : Code} {T : State} {H : Heap} {locs : List Loc} {cells slots : Nat}
abbrev vx_CSW (R : Room) (s : State) (args : Array Value) (own : String) (index : Nat) (y : MethodName) (bytes : ByteArray) (maxL : Nat) (ret : Option FieldType) (hh : List (Nat × Nat × Nat × Nat)) (ws : List Cond) (rm : Room) (mc ms n : Nat) : Prop :=
  (rm.cells = mc ∧ rm.slots = ms ∧ rm.frames + 1 ≤ R.frames ∧ 8 + (maxL + 11) + rm.locals ≤ R.locals ∧ (∀ w ∈ ws, ∀ (a' : Array Value) (U : State), s.WarmedH U.vm → w.before a' U = true) ∧ Cond.codeWith y bytes maxL ret hh ∈ ws) ∧
  (Cond.codeWith y bytes maxL ret hh).before args s = true ∧ (Cond.initialized y.cls).before args s = true ∧ (y.cls ≠ "java/lang/invoke/MethodHandle" ∧ y.cls ≠ "java/lang/invoke/VarHandle") ∧
  (∀ sig, parseMethodDescriptor y.desc = some sig → n = sig.parameters.length) ∧ (Cond.methodLink own index y).before args s = true ∧ (Cond.static y).before args s = true
theorem vx_cwSW {own : String} {index maxL mc ms : Nat} {y : MethodName} {bytes : ByteArray} {ret : Option FieldType} {hh : List (Nat × Nat × Nat × Nat)} {Ts ws ws' : List Cond} {rm : Room} (n : Nat) (ht : ∀ w ∈ Ts, w.before args s = true) (hT : GoodIn Ts (va_wsS own index y ws)) (hw : ws = Cond.codeWith y bytes maxL ret hh :: ws') (hrc : rm.cells = mc) (hrs : rm.slots = ms)
    (hd : y.cls ≠ "java/lang/invoke/MethodHandle" ∧ y.cls ≠ "java/lang/invoke/VarHandle" ∧ (parseMethodDescriptor y.desc).map (fun d => d.parameters.length) = some n) (hR : rm.frames + 1 ≤ R.frames ∧ 8 + (maxL + 11) + rm.locals ≤ R.locals) :
    vx_CSW R s args own index y bytes maxL ret hh ws rm mc ms n := by
  have ok : ∀ w ∈ va_wsS own index y ws, w.before args s = true := fun w h => ht w (hT w h).1
  have hG : GoodIn Ts ws := fun w h => hT w (by unfold va_wsS; exact List.mem_append_right _ h)
  have hc : Cond.codeWith y bytes maxL ret hh ∈ ws := by rw [hw]; exact List.mem_cons_self
  refine ⟨⟨hrc, hrs, hR.1, hR.2, pay_in ht hG, hc⟩, ht _ (hG _ hc).1, ok _ (by simp [va_wsS]), ⟨hd.1, hd.2.1⟩, fun sig h => ?_, ok _ (by simp [va_wsS]), ok _ (by simp [va_wsS])⟩
  have h2 := hd.2.2
  rw [h] at h2
  exact (Option.some.inj h2).symm
theorem vx_callSW (X : Stand p l e R s m args below meth c T locs cells slots) (hexec : p.tables.exec = Jvm.exec) {own : String} {index : Nat} {y : MethodName} {bytes : ByteArray} {maxL : Nat} {ret : Option FieldType} {hh : List (Nat × Nat × Nat × Nat)}
    (hown : s.vm.findClass own = some m.cls) (hlink : (Cond.methodLink own index y).before args s = true) (hstat : (Cond.static y).before args s = true) (hinit : (Cond.initialized y.cls).before args s = true)
    (hcode : (Cond.codeWith y bytes maxL ret hh).before args s = true) (hy : y.cls ≠ "java/lang/invoke/MethodHandle" ∧ y.cls ≠ "java/lang/invoke/VarHandle")
    {W9 : Nat} {Pre : Pt → Array Value → Prop} {Post : Pt → Array Value → Option Value → Pt → Prop} (hK : Back l R p e below s args y 3 W9 Pre Post)
    {g : JFrame} (hg : g.method = m) (hsize : g.locals.size = c.maxLocals) {argsL rest : List Value} (hlen : ∀ sig, parseMethodDescriptor y.desc = some sig → argsL.length = sig.parameters.length)
    (hstack : g.stack = argsL.reverse ++ rest) (hW : 2 * g.monitorRoom + (rest.map fun v => v.category).sum ≤ W9) (hdg : decode c.code g.pc = .ok (.invokestatic index, 3))
    (hpre : ∀ vm₁, s.WarmedH vm₁ → Pre ⟨T.setVm vm₁, locs, cells, slots⟩ argsL.toArray) :
    ∃ (v : Option Value) (vm₁ : Vm) (B : Pt), s.WarmedH vm₁ ∧ Stand p l e R s m args below meth c B.U B.locs B.cells B.slots ∧ Post ⟨T.setVm vm₁, locs, cells, slots⟩ argsL.toArray v B ∧
      ∀ target, Steps p.tables e below (B.U.setTop { g with pc := g.pc + 3, stack := v.toList ++ rest }) target → Steps p.tables e below (T.setTop g) target := by
  obtain ⟨mk, methM, cM, hnamed, hmethM, -, -, -, -, -, -, hsigM⟩ := Cond.codeWith_spec hcode
  have hstatic : methM.isStatic = true := Cond.static_spec hnamed hmethM hstat
  obtain ⟨kP, hkP, -⟩ := className_of_methodNamed hnamed
  have hinitP : kP.init = .initialized := Cond.initialized_spec (findClass_of_methodNamed hnamed) hkP hinit
  obtain ⟨vm₁, X₁, hstep₁⟩ := X.invokestatic hexec hown hlink hnamed hmethM hstatic hkP hinitP hy (g := g) hg (argsL := argsL) (rest := rest) (hlen _ hsigM) hstack hdg
  obtain ⟨v, B, X', hpost, hsteps⟩ := hK m meth c ⟨T.setVm vm₁, locs, cells, slots⟩ { g with stack := rest } (.invokestatic index) mk argsL.toArray X₁ hg hsize hdg hW (X₁.named hnamed) (hpre vm₁ X₁.warmed)
  exact ⟨v, vm₁, B, X₁.warmed, X', hpost, fun target h => hstep₁ _ fun acts => by rw [doInvoke_state]; exact hsteps.trans h⟩
theorem vx_runSW {y : MethodName} {bytes cc : ByteArray} {maxL nL mc ms n index : Nat} {ret : Option FieldType} {hh : List (Nat × Nat × Nat × Nat)} {ws : List Cond} {rm : Room} {Pc : Array Value → State → Prop} {Qc : Array Value → State → Outcome → State → Prop} {free : Addr → Prop} {Ts : List Cond} {own : String} {As rest : List Value} {g : JFrame}
    (S : CallFix p m c cc nL s args Ts own) (hM : Met l y ws rm Pc Qc mc ms free) (cw : vx_CSW R s args own index y bytes maxL ret hh ws rm mc ms n) (hp : PreS s H Pc As)
    (hg : g.method = m) (hn : As.length = n) (hsize : g.locals.size = nL) (hstack : g.stack = As.reverse ++ rest) (hW : 2 * g.monitorRoom + (rest.map fun v => v.category).sum ≤ 8) (hdg : decode cc g.pc = .ok (.invokestatic index, 3)) (hf : cells + mc ≤ R.cells ∧ slots + ms ≤ R.slots) :
    va_Run p l e R s m args below meth c H locs cells slots mc ms g rest (Qc As.toArray) (free) := by
  obtain ⟨⟨hrc, hrs, hfr, hlo, hws, hcw⟩, hcode, hini, hy, hlen, hl, hstt⟩ := cw
  have hK : Back l R p e below s args y 3 8 (PreOf R mc ms Pc) (PostOf Qc mc ms free) := va_backW (hh := hh) (bytes := bytes) (maxL := maxL) (ret := ret) hM hp.1 hrc hrs hfr hlo hws hcw (fun a' U hW => word_at hW (Or.inl (by first | rfl | simp [Cond.onTables, Cond.keeps, Cond.steady])) hini)
  obtain ⟨hx, hb, hml, ho, -⟩ := S
  intro T hT X
  obtain ⟨v, vm₁, ⟨U', l2, c2, s2⟩, hW₁, X', ⟨g', mk, t, L, e1, e2, hq, h1, hL, h2, h3⟩, st⟩ := vx_callSW X hx (hh := hh) (bytes := bytes) (maxL := maxL) (ret := ret) ho hl hstt hini hcode hy hK hg (hsize.trans hml.symm) (argsL := As) (rest := rest) (fun sig h => hn.trans (hlen sig h)) hstack hW (by rw [hb]; exact hdg)
    (fun vm₁ hW₁ => ⟨hf.1, hf.2, hp.2 (T.setVm vm₁) hT hW₁⟩)
  dsimp only [Pt.U, Pt.locs, Pt.cells, Pt.slots] at X' e1 e2 h1 h2 h3 st
  subst h1; subst h2; subst h3
  exact ⟨v, (T.setVm vm₁).calling g' mk As.toArray, t, U', L, hT, X', hL, e1, e2, hq, st⟩
/-- not caught here, past rows that name other classes: it goes on to the caller -/
theorem vx_outP {p : Program} {l : Launch} {e : Env} {R : Room} {s : State} {m : MethodId} {args : Array Value} {below : List Frame} {meth : Method} {c : Code} {H : Heap} {locs : List Loc} {cells slots : Nat} {free : Addr → Prop} {ls : Array Slot} {rest : List Value} {Qc : Array Value → State → Outcome → State → Prop} {XC : String → State → State → Prop}
    {pc : Nat} {own E : String} {ce : Cell} {q : Addr} {mc ms : Nat} (hown : s.vm.findClass own = some m.cls) (hlocks : meth.locks = false)
    (hpass : ∀ z ∈ c.exceptionTable.toList, covers z pc = false ∨ (z.catchType ≠ 0 ∧ ∃ nm : String, (Cond.classLink own z.catchType nm).before args s = true ∧ va_Nc E nm s)) (hcell : H[q]? = some ce) (hv : ce.vm = .none) (hcl : s.vm.findClass E = some ce.cls)
    (hx : ∀ t : State, t.heap = H → s.vm.Alike t.vm → XC E s t) (hf : ∀ z ∈ locs, free z.base) (hc : cells ≤ mc) (hs : slots ≤ ms) :
    vx_W p l e R s m args below meth c H locs cells slots (vx_MQ below Qc XC args s mc ms free) (F0 m pc ls rest) q := by
  intro T hT X
  have hpl : e.platform.magicAccessors = ({} : Platform).magicAccessors := by rw [X.admits.platform]
  obtain ⟨vm', hW', X', st⟩ := X.outThrough hlocks q (g := F0 m pc ls rest) rfl rfl rfl (cell := ce) (by rw [hT]; exact hcell) (by rw [hv]; rfl)
    (by obtain ⟨k9, h9, -⟩ := Vm.findClass_spec hcl; exact ⟨k9, h9⟩) (fun z hz => by
      rcases hpass z hz with h | ⟨hz0, nm, hl1, hn1⟩
      · exact Or.inl h
      · obtain ⟨c6, hc6, hcl6⟩ := Cond.classLink_spec hown hl1 e.platform hpl
        obtain ⟨a8, b8, h1, h2, h3⟩ := hn1
        cases Option.some.inj (h1.symm.trans hcl)
        cases Option.some.inj (h2.symm.trans hc6)
        exact Or.inr ⟨hz0, _, hcl6, h3⟩)
  obtain ⟨g₀, hfr⟩ := X'.frames_eq
  have hcell9 : ((T.setVm vm').setFrames (.throwing q :: below)).heap[q]? = some ce := by
    show T.heap[q]? = some ce
    rw [hT]; exact hcell
  have hend : Ended ((T.setVm vm').setFrames (.throwing q :: below)) below (.threw q) := State.frames_setFrames _ (State.cur_lt_of_frames hfr)
  refine ⟨(T.setVm vm').setFrames (.throwing q :: below), ?_, .threw q, X'.here.running, hend, Or.inr ⟨q, rfl, E, ce, locs, hx _ hT (X'.ends _).1.alike, hcell9, hv, hcl, (X'.ends _).1, (X'.ends _).2.mono hc hs, hf⟩⟩
  rw [X.pushThrowing_eq]
  exact st
/-- a thing of a world lies in the heap -/
theorem vx_lt {D : va_G} {cl : List vw_C} {ws : va_W} {H1 : Heap} (h : va_P D cl ws H1) {k : Nat} {q : Nat × va_E} (hk : ws[k]? = some q) : q.1 < H1.size := (h k q hk).lt
end VXS
/-! ===== END ===== -/
/-! ===== BEGIN methods with a table of their own: called by a name, returning or throwing ===== -/
section VXH
/-! vx_backW, vx_callVX, vx_callSX, vx_callVW, vx_runVW, vx_runVX, vx_runSX, vx_ofWH follow the same proofs as their sisters above (Free/Laws.lean, Shelf42/LK1.lean); vx_outP calls Shelf42/NT130.lean (outThrough). -/
section
variable {l : Launch} {R : Room} {p : Program} {e : Env} {below : List Frame} {s : State} {sargs : Array Value} {y : MethodName} {len W9 : Nat}
theorem vx_backW {ws : List Cond} {rm : Room} {Pc : Array Value → State → Prop} {Qc : Array Value → State → Outcome → State → Prop} {XC : String → State → State → Prop} {mc ms : Nat} {free : Addr → Prop} {bytes : ByteArray} {maxL : Nat} {ret : Option FieldType} {hh : List (Nat × Nat × Nat × Nat)}
    (hM : vx_Met l y ws rm Pc Qc XC mc ms free) (hblind : FrameBlind Pc) (hrc : rm.cells = mc) (hrs : rm.slots = ms)
    (hframes : rm.frames + 1 ≤ R.frames) (hlocals : W9 + (maxL + 11) + rm.locals ≤ R.locals)
    (hws : ∀ w ∈ ws, ∀ a' U, s.WarmedH U.vm → w.before a' U = true) (hcode : Cond.codeWith y bytes maxL ret hh ∈ ws) (hinit : ∀ a' U, s.WarmedH U.vm → (Cond.initialized y.cls).before a' U = true) :
    vx_Back l R p e below s sargs y len W9 (PreOf R mc ms Pc) (PostOf Qc mc ms free) (vx_Post XC mc ms free) := by
  intro m meth c A g ig mk a X hg hsize hdg hW hn hp
  have h1 : (headSpec ws rm).pre.before a A.U = true := atoms_intro fun w hw => hws w hw _ _ X.warmed
  have h2 : (Cond.codeWith y bytes maxL ret hh).before a A.U = true := hws _ hcode _ _ X.warmed
  have h3 : (Cond.initialized y.cls).before a A.U = true := hinit _ _ X.warmed
  have h4 : A.cells + (headSpec ws rm).room.cells ≤ R.cells := by rw [show (headSpec ws rm).room.cells = mc from hrc]; exact hp.1
  have h5 : A.slots + (headSpec ws rm).room.slots ≤ R.slots := by rw [show (headSpec ws rm).room.slots = ms from hrs]; exact hp.2.1
  have hPc : Pc a (A.U.calling g mk a) := hblind _ _ _ _ hp.2.2
  obtain ⟨U, Ls, c0, s0⟩ := A
  dsimp only [Pt.U, Pt.locs, Pt.cells, Pt.slots] at h1 h2 h3 h4 h5 X hn hPc ⊢
  obtain ⟨m9, methY, cY, hn9, hmY, hcY, -, hlY, -⟩ := Cond.codeWith_spec h2
  cases Option.some.inj (hn9.symm.trans hn)
  obtain ⟨kY, hkY, -⟩ := className_of_methodNamed hn
  have hinitY : kY.init = .initialized := Cond.initialized_spec (findClass_of_methodNamed hn) hkY h3
  have h : At U g.method c below := by rw [hg]; exact X.here
  have hlocals9 : W9 + (maxL + 11) + (headSpec ws rm).room.locals ≤ R.locals := hlocals
  have happ : (headSpec ws rm).appliesLoose y e.platform (U.calling g mk a) = true :=
    Spec.appliesLoose_calling (g := g) h hdg hn hkY hinitY
      (X.room_calling (g := g) (R' := (headSpec ws rm).room) hsize hmY hcY hframes (by rw [hlY]; omega) h4 h5) h1
  obtain ⟨mid, hmid⟩ := h.above
  have hfr : (U.setTop g).frames = (.java g :: mid) ++ below := by rw [State.frames_setTop' g h.top, hmid]; rfl
  obtain ⟨o, s₂, hsteps, -, hend, hq⟩ := Steps.callFree hM p X.admits X.cas X.clock (acts := []) hfr happ hPc trivial
  have hq' : vx_Q Qc XC mc ms free a (U.calling g mk a) o s₂ := hq
  rw [State.frames_setTop' g h.top] at hend
  obtain ⟨g₀, hg0⟩ := Option.isSome_iff_exists.mp h.top
  obtain ⟨r, hr⟩ := State.topJava?_eq_some.mp hg0
  have hr' : (({ U with heap := s₂.heap, slotsUsed := s₂.slotsUsed } : State).setVm s₂.vm).frames = .java g₀ :: r := hr
  rcases hq' with ⟨hqc, L, hfe, hL⟩ | ⟨q, rfl, E, ce, L, hx, hce, hcv, hcl, hW₂, hsm, hL⟩
  · obtain ⟨⟨v, rfl⟩, hW₂, e2, q2, q3, q4, q5, q6⟩ := id hfe
    have e3 : s₂ = ({ (U.calling g mk a).setFrames s₂.frames with heap := s₂.heap, slotsUsed := s₂.slotsUsed } : State).setVm s₂.vm := by
      have : s₂ = ({ s₂ with vm := (U.calling g mk a).vm } : State).setVm s₂.vm := rfl
      rw [e2] at this
      exact this
    obtain ⟨c₂, i₂, len₂, hc₂, hd₂, hf₂⟩ := hend
    have hW' : U.WarmedH s₂.vm := hW₂
    have hcc : c₂ = c := by
      have h1 : s₂.code? g.method = U.code? g.method := by
        rw [State.code?_eq, State.code?_eq, hW'.alike.method?]
      exact Option.some.inj (hc₂.symm.trans (h1.trans h.code))
    subst hcc
    have hlen : len₂ = len := by rw [hdg] at hd₂; cases hd₂; rfl
    subst hlen
    have hs₂ : s₂ = (({ U with heap := s₂.heap, slotsUsed := s₂.slotsUsed } : State).setVm s₂.vm).setTop { g with pc := g.pc + len₂, stack := v.toList ++ g.stack } := by
      refine e3.trans ?_
      rw [hf₂, State.calling_eq h.top, State.setFrames_setFrames, State.setTop_of_frames _ hr', hr]
      rfl
    have hsame : U.sameButNew ({ U with heap := s₂.heap, slotsUsed := s₂.slotsUsed } : State) L mc ms := by
      refine ⟨?_, q2, q3, q4, q5, q6⟩
      obtain ⟨t, ht, -⟩ := State.frames_cons hr
      show ({ U with heap := s₂.heap, slotsUsed := s₂.slotsUsed } : State) = { U.setFrames U.frames with heap := s₂.heap, slotsUsed := s₂.slotsUsed }
      rw [State.setFrames_self ht]
    subst hg
    refine Or.inl ⟨v, ⟨(({ U with heap := s₂.heap, slotsUsed := s₂.slotsUsed } : State).setVm s₂.vm), Ls ++ L, c0 + mc, s0 + ms⟩,
      ⟨X.admits, X.cas, X.clock, X.frames, X.room, X.hears, X.method, X.code, (X.here.setHeapUsed s₂.heap s₂.slotsUsed).setVm hW'.alike, X.tail, State.WarmedH.trans X.warmed hW', X.limits, X.bytes, X.same.trans (hsame.setVm s.vm)⟩,
      ⟨g, mk, s₂, L, rfl, rfl, hqc, rfl, hL, rfl, rfl⟩, ?_⟩
    show Steps p.tables e below _ ((({ U with heap := s₂.heap, slotsUsed := s₂.slotsUsed } : State).setVm s₂.vm).setTop { g with pc := g.pc + len₂, stack := v.toList ++ g.stack })
    rw [← hs₂]
    exact hsteps
  · obtain ⟨e2, q2, q3, q4, q5, q6⟩ := id hsm
    have e3 : s₂ = ({ (U.calling g mk a).setFrames s₂.frames with heap := s₂.heap, slotsUsed := s₂.slotsUsed } : State).setVm s₂.vm := by
      have : s₂ = ({ s₂ with vm := (U.calling g mk a).vm } : State).setVm s₂.vm := rfl
      rw [e2] at this
      exact this
    have hf₂ : s₂.frames = .throwing q :: .java g :: U.frames.tail := hend
    have hW' : U.WarmedH s₂.vm := hW₂
    have hs₂ : s₂ = ((({ U with heap := s₂.heap, slotsUsed := s₂.slotsUsed } : State).setVm s₂.vm).setTop g).pushFrame (.throwing q) := by
      refine e3.trans ?_
      rw [hf₂, State.calling_eq h.top, State.setFrames_setFrames, State.pushFrame, State.frames_setTop _ hr', State.setTop_of_frames _ hr', State.setFrames_setFrames, hr]
      rfl
    have hsame : U.sameButNew ({ U with heap := s₂.heap, slotsUsed := s₂.slotsUsed } : State) L mc ms := by
      refine ⟨?_, q2, q3, q4, q5, q6⟩
      obtain ⟨t, ht, -⟩ := State.frames_cons hr
      show ({ U with heap := s₂.heap, slotsUsed := s₂.slotsUsed } : State) = { U.setFrames U.frames with heap := s₂.heap, slotsUsed := s₂.slotsUsed }
      rw [State.setFrames_self ht]
    subst hg
    refine Or.inr ⟨q, ⟨(({ U with heap := s₂.heap, slotsUsed := s₂.slotsUsed } : State).setVm s₂.vm), Ls ++ L, c0 + mc, s0 + ms⟩,
      ⟨X.admits, X.cas, X.clock, X.frames, X.room, X.hears, X.method, X.code, (X.here.setHeapUsed s₂.heap s₂.slotsUsed).setVm hW'.alike, X.tail, State.WarmedH.trans X.warmed hW', X.limits, X.bytes, X.same.trans (hsame.setVm s.vm)⟩,
      ⟨g, mk, s₂, L, E, ce, rfl, rfl, hx, hce, hcv, hcl, rfl, hL, rfl, rfl⟩, ?_⟩
    show Steps p.tables e below _ (((({ U with heap := s₂.heap, slotsUsed := s₂.slotsUsed } : State).setVm s₂.vm).setTop g).pushFrame (.throwing q))
    rw [← hs₂]
    exact hsteps
end
variable {p : Program} {l : Launch} {e : Env} {R : Room} {s : State} {m : MethodId} {args : Array Value} {below : List Frame} {meth : Method} {c : Code} {T : State} {H : Heap} {locs : List Loc} {cells slots : Nat}
theorem vx_callVX (X : Stand p l e R s m args below meth c T locs cells slots) (hexec : p.tables.exec = Jvm.exec) {own C : String} {index : Nat} {y : MethodName} {bytes : ByteArray} {maxL : Nat} {ret : Option FieldType} {hh : List (Nat × Nat × Nat × Nat)}
    (hown : s.vm.findClass own = some m.cls) (hlink : (Cond.methodLink own index y).before args s = true) (hinst : (Cond.instanceMethod y).before args s = true) (hsel : (Cond.selects C y y).before args s = true)
    (hcode : (Cond.codeWith y bytes maxL ret hh).before args s = true) (hy : y.cls ≠ "java/lang/invoke/MethodHandle" ∧ y.cls ≠ "java/lang/invoke/VarHandle")
    {W9 : Nat} {Pre : Pt → Array Value → Prop} {Post : Pt → Array Value → Option Value → Pt → Prop} {PostX : Pt → Array Value → Addr → Pt → Prop} (hK : vx_Back l R p e below s args y 3 W9 Pre Post PostX)
    {b : Addr} {cellB : Cell} (hcell : T.heap[b]? = some cellB) (hobj : cellB.vm.isStatics = false) (hcls : s.vm.findClass C = some cellB.cls)
    {g : JFrame} (hg : g.method = m) (hsize : g.locals.size = c.maxLocals) {argsL rest : List Value} (hlen : ∀ sig, parseMethodDescriptor y.desc = some sig → argsL.length = sig.parameters.length)
    (hstack : g.stack = argsL.reverse ++ .ref b :: rest) (hW : 2 * g.monitorRoom + (rest.map fun v => v.category).sum ≤ W9) (hdg : decode c.code g.pc = .ok (.invokevirtual index, 3))
    (hpre : ∀ vm₁, s.WarmedH vm₁ → Pre ⟨T.setVm vm₁, locs, cells, slots⟩ (Value.ref b :: argsL).toArray) :
    (∃ (v : Option Value) (vm₁ : Vm) (B : Pt), s.WarmedH vm₁ ∧ Stand p l e R s m args below meth c B.U B.locs B.cells B.slots ∧ Post ⟨T.setVm vm₁, locs, cells, slots⟩ (Value.ref b :: argsL).toArray v B ∧
      ∀ target, Steps p.tables e below (B.U.setTop { g with pc := g.pc + 3, stack := v.toList ++ rest }) target → Steps p.tables e below (T.setTop g) target) ∨
    (∃ (q : Addr) (vm₁ : Vm) (B : Pt), s.WarmedH vm₁ ∧ Stand p l e R s m args below meth c B.U B.locs B.cells B.slots ∧ PostX ⟨T.setVm vm₁, locs, cells, slots⟩ (Value.ref b :: argsL).toArray q B ∧
      Steps p.tables e below (T.setTop g) ((B.U.setTop { g with stack := rest }).pushFrame (.throwing q))) := by
  obtain ⟨mk, methM, hnamed, hmethM, hstM, habM⟩ := Cond.instanceMethod_spec hinst
  obtain ⟨m8, methM', cM, hn8, hmethM', -, -, -, -, -, -, hsigM⟩ := Cond.codeWith_spec hcode
  cases Option.some.inj (hn8.symm.trans hnamed)
  cases hmethM.symm.trans hmethM'
  obtain ⟨c2, r2, m2, q1, q2, q3, q4, kP, hkP, hkPi⟩ := Cond.selects_spec hsel
  cases hcls.symm.trans q1
  cases (State.methodFound?_of_named hnamed hy).symm.trans q2
  cases hnamed.symm.trans q3
  have hselP : selectMethod e.platform s.vm cellB.cls mk = .method mk := by rw [Launch.admits_selectMethod X.admits]; exact q4
  obtain ⟨vm₁, X₁, hstep₁⟩ := X.invokevirtual hexec hown hlink hnamed hmethM hstM hkP hkPi hy (a := b) (cell := cellB) hcell
    (fun z h => by rw [h] at hobj; cases hobj) hselP hmethM habM hkP hkPi (g := g) hg (argsL := argsL) (rest := rest) (hlen _ hsigM) hstack hdg
  rcases hK m meth c ⟨T.setVm vm₁, locs, cells, slots⟩ { g with stack := rest } (.invokevirtual index) mk (Value.ref b :: argsL).toArray X₁ hg hsize hdg hW (X₁.named hnamed) (hpre vm₁ X₁.warmed) with ⟨v, B, X', hpost, hsteps⟩ | ⟨q, B, X', hpost, hsteps⟩
  · exact Or.inl ⟨v, vm₁, B, X₁.warmed, X', hpost, fun target h => hstep₁ _ fun acts => by rw [doInvoke_state]; exact hsteps.trans h⟩
  · exact Or.inr ⟨q, vm₁, B, X₁.warmed, X', hpost, hstep₁ _ fun acts => by rw [doInvoke_state]; exact hsteps⟩
theorem vx_callSX (X : Stand p l e R s m args below meth c T locs cells slots) (hexec : p.tables.exec = Jvm.exec) {own : String} {index : Nat} {y : MethodName} {bytes : ByteArray} {maxL : Nat} {ret : Option FieldType} {hh : List (Nat × Nat × Nat × Nat)}
    (hown : s.vm.findClass own = some m.cls) (hlink : (Cond.methodLink own index y).before args s = true) (hstat : (Cond.static y).before args s = true) (hinit : (Cond.initialized y.cls).before args s = true)
    (hcode : (Cond.codeWith y bytes maxL ret hh).before args s = true) (hy : y.cls ≠ "java/lang/invoke/MethodHandle" ∧ y.cls ≠ "java/lang/invoke/VarHandle")
    {W9 : Nat} {Pre : Pt → Array Value → Prop} {Post : Pt → Array Value → Option Value → Pt → Prop} {PostX : Pt → Array Value → Addr → Pt → Prop} (hK : vx_Back l R p e below s args y 3 W9 Pre Post PostX)
    {g : JFrame} (hg : g.method = m) (hsize : g.locals.size = c.maxLocals) {argsL rest : List Value} (hlen : ∀ sig, parseMethodDescriptor y.desc = some sig → argsL.length = sig.parameters.length)
    (hstack : g.stack = argsL.reverse ++ rest) (hW : 2 * g.monitorRoom + (rest.map fun v => v.category).sum ≤ W9) (hdg : decode c.code g.pc = .ok (.invokestatic index, 3))
    (hpre : ∀ vm₁, s.WarmedH vm₁ → Pre ⟨T.setVm vm₁, locs, cells, slots⟩ argsL.toArray) :
    (∃ (v : Option Value) (vm₁ : Vm) (B : Pt), s.WarmedH vm₁ ∧ Stand p l e R s m args below meth c B.U B.locs B.cells B.slots ∧ Post ⟨T.setVm vm₁, locs, cells, slots⟩ argsL.toArray v B ∧
      ∀ target, Steps p.tables e below (B.U.setTop { g with pc := g.pc + 3, stack := v.toList ++ rest }) target → Steps p.tables e below (T.setTop g) target) ∨
    (∃ (q : Addr) (vm₁ : Vm) (B : Pt), s.WarmedH vm₁ ∧ Stand p l e R s m args below meth c B.U B.locs B.cells B.slots ∧ PostX ⟨T.setVm vm₁, locs, cells, slots⟩ argsL.toArray q B ∧
      Steps p.tables e below (T.setTop g) ((B.U.setTop { g with stack := rest }).pushFrame (.throwing q))) := by
  obtain ⟨mk, methM, cM, hnamed, hmethM, -, -, -, -, -, -, hsigM⟩ := Cond.codeWith_spec hcode
  have hstatic : methM.isStatic = true := Cond.static_spec hnamed hmethM hstat
  obtain ⟨kP, hkP, -⟩ := className_of_methodNamed hnamed
  have hinitP : kP.init = .initialized := Cond.initialized_spec (findClass_of_methodNamed hnamed) hkP hinit
  obtain ⟨vm₁, X₁, hstep₁⟩ := X.invokestatic hexec hown hlink hnamed hmethM hstatic hkP hinitP hy (g := g) hg (argsL := argsL) (rest := rest) (hlen _ hsigM) hstack hdg
  rcases hK m meth c ⟨T.setVm vm₁, locs, cells, slots⟩ { g with stack := rest } (.invokestatic index) mk argsL.toArray X₁ hg hsize hdg hW (X₁.named hnamed) (hpre vm₁ X₁.warmed) with ⟨v, B, X', hpost, hsteps⟩ | ⟨q, B, X', hpost, hsteps⟩
  · exact Or.inl ⟨v, vm₁, B, X₁.warmed, X', hpost, fun target h => hstep₁ _ fun acts => by rw [doInvoke_state]; exact hsteps.trans h⟩
  · exact Or.inr ⟨q, vm₁, B, X₁.warmed, X', hpost, hstep₁ _ fun acts => by rw [doInvoke_state]; exact hsteps⟩
theorem vx_callVW (X : Stand p l e R s m args below meth c T locs cells slots) (hexec : p.tables.exec = Jvm.exec) {own C : String} {index : Nat} {y : MethodName} {bytes : ByteArray} {maxL : Nat} {ret : Option FieldType} {hh : List (Nat × Nat × Nat × Nat)}
    (hown : s.vm.findClass own = some m.cls) (hlink : (Cond.methodLink own index y).before args s = true) (hinst : (Cond.instanceMethod y).before args s = true) (hsel : (Cond.selects C y y).before args s = true)
    (hcode : (Cond.codeWith y bytes maxL ret hh).before args s = true) (hy : y.cls ≠ "java/lang/invoke/MethodHandle" ∧ y.cls ≠ "java/lang/invoke/VarHandle")
    {W9 : Nat} {Pre : Pt → Array Value → Prop} {Post : Pt → Array Value → Option Value → Pt → Prop} (hK : Back l R p e below s args y 3 W9 Pre Post)
    {b : Addr} {cellB : Cell} (hcell : T.heap[b]? = some cellB) (hobj : cellB.vm.isStatics = false) (hcls : s.vm.findClass C = some cellB.cls)
    {g : JFrame} (hg : g.method = m) (hsize : g.locals.size = c.maxLocals) {argsL rest : List Value} (hlen : ∀ sig, parseMethodDescriptor y.desc = some sig → argsL.length = sig.parameters.length)
    (hstack : g.stack = argsL.reverse ++ .ref b :: rest) (hW : 2 * g.monitorRoom + (rest.map fun v => v.category).sum ≤ W9) (hdg : decode c.code g.pc = .ok (.invokevirtual index, 3))
    (hpre : ∀ vm₁, s.WarmedH vm₁ → Pre ⟨T.setVm vm₁, locs, cells, slots⟩ (Value.ref b :: argsL).toArray) :
    ∃ (v : Option Value) (vm₁ : Vm) (B : Pt), s.WarmedH vm₁ ∧ Stand p l e R s m args below meth c B.U B.locs B.cells B.slots ∧ Post ⟨T.setVm vm₁, locs, cells, slots⟩ (Value.ref b :: argsL).toArray v B ∧
      ∀ target, Steps p.tables e below (B.U.setTop { g with pc := g.pc + 3, stack := v.toList ++ rest }) target → Steps p.tables e below (T.setTop g) target := by
  obtain ⟨mk, methM, hnamed, hmethM, hstM, habM⟩ := Cond.instanceMethod_spec hinst
  obtain ⟨m8, methM', cM, hn8, hmethM', -, -, -, -, -, -, hsigM⟩ := Cond.codeWith_spec hcode
  cases Option.some.inj (hn8.symm.trans hnamed)
  cases hmethM.symm.trans hmethM'
  obtain ⟨c2, r2, m2, q1, q2, q3, q4, kP, hkP, hkPi⟩ := Cond.selects_spec hsel
  cases hcls.symm.trans q1
  cases (State.methodFound?_of_named hnamed hy).symm.trans q2
  cases hnamed.symm.trans q3
  have hselP : selectMethod e.platform s.vm cellB.cls mk = .method mk := by rw [Launch.admits_selectMethod X.admits]; exact q4
  obtain ⟨vm₁, X₁, hstep₁⟩ := X.invokevirtual hexec hown hlink hnamed hmethM hstM hkP hkPi hy (a := b) (cell := cellB) hcell
    (fun z h => by rw [h] at hobj; cases hobj) hselP hmethM habM hkP hkPi (g := g) hg (argsL := argsL) (rest := rest) (hlen _ hsigM) hstack hdg
  obtain ⟨v, B, X', hpost, hsteps⟩ := hK m meth c ⟨T.setVm vm₁, locs, cells, slots⟩ { g with stack := rest } (.invokevirtual index) mk (Value.ref b :: argsL).toArray X₁ hg hsize hdg hW (X₁.named hnamed) (hpre vm₁ X₁.warmed)
  exact ⟨v, vm₁, B, X₁.warmed, X', hpost, fun target h => hstep₁ _ fun acts => by rw [doInvoke_state]; exact hsteps.trans h⟩
abbrev vx_CVW (R : Room) (s : State) (args : Array Value) (own C : String) (index : Nat) (y : MethodName) (bytes : ByteArray) (maxL : Nat) (ret : Option FieldType) (hh : List (Nat × Nat × Nat × Nat)) (ws : List Cond) (rm : Room) (mc ms n : Nat) : Prop :=
  (rm.cells = mc ∧ rm.slots = ms ∧ rm.frames + 1 ≤ R.frames ∧ 8 + (maxL + 11) + rm.locals ≤ R.locals ∧ (∀ w ∈ ws, ∀ (a' : Array Value) (U : State), s.WarmedH U.vm → w.before a' U = true) ∧ Cond.codeWith y bytes maxL ret hh ∈ ws) ∧
  (Cond.codeWith y bytes maxL ret hh).before args s = true ∧ (Cond.initialized y.cls).before args s = true ∧ (y.cls ≠ "java/lang/invoke/MethodHandle" ∧ y.cls ≠ "java/lang/invoke/VarHandle") ∧
  (∀ sig, parseMethodDescriptor y.desc = some sig → n = sig.parameters.length) ∧ (Cond.methodLink own index y).before args s = true ∧ (Cond.instanceMethod y).before args s = true ∧ (Cond.selects C y y).before args s = true
theorem vx_cwVW {own C : String} {index maxL mc ms : Nat} {y : MethodName} {bytes : ByteArray} {ret : Option FieldType} {hh : List (Nat × Nat × Nat × Nat)} {Ts ws ws' : List Cond} {rm : Room} (n : Nat) (ht : ∀ w ∈ Ts, w.before args s = true) (hT : GoodIn Ts (wsV own index C y ws)) (hw : ws = Cond.codeWith y bytes maxL ret hh :: ws') (hrc : rm.cells = mc) (hrs : rm.slots = ms)
    (hd : y.cls = C ∧ y.cls ≠ "java/lang/invoke/MethodHandle" ∧ y.cls ≠ "java/lang/invoke/VarHandle" ∧ (parseMethodDescriptor y.desc).map (fun d => d.parameters.length) = some n) (hR : rm.frames + 1 ≤ R.frames ∧ 8 + (maxL + 11) + rm.locals ≤ R.locals) :
    vx_CVW R s args own C index y bytes maxL ret hh ws rm mc ms n := by
  obtain ⟨hC, hd⟩ := hd
  subst hC
  have ok : ∀ w ∈ wsV own index y.cls y ws, w.before args s = true := fun w h => ht w (hT w h).1
  have hG : GoodIn Ts ws := fun w h => hT w (by unfold wsV; exact List.mem_append_right _ h)
  have hc : Cond.codeWith y bytes maxL ret hh ∈ ws := by rw [hw]; exact List.mem_cons_self
  refine ⟨⟨hrc, hrs, hR.1, hR.2, pay_in ht hG, hc⟩, ht _ (hG _ hc).1, ok _ (by simp [wsV]), ⟨hd.1, hd.2.1⟩, fun sig h => ?_, ok _ (by simp [wsV]), ok _ (by simp [wsV]), ok _ (by simp [wsV])⟩
  have h2 := hd.2.2
  rw [h] at h2
  exact (Option.some.inj h2).symm
theorem vx_runVW {y : MethodName} {bytes cc : ByteArray} {maxL nL mc ms n index : Nat} {ret : Option FieldType} {hh : List (Nat × Nat × Nat × Nat)} {ws : List Cond} {rm : Room} {Pc : Array Value → State → Prop} {Qc : Array Value → State → Outcome → State → Prop} {free : Addr → Prop} {Ts : List Cond} {own C : String} {b : Addr} {As rest : List Value} {g : JFrame}
    (S : CallFix p m c cc nL s args Ts own) (hM : Met l y ws rm Pc Qc mc ms free) (cw : vx_CVW R s args own C index y bytes maxL ret hh ws rm mc ms n) (hp : PreV s H C b Pc As)
    (hg : g.method = m) (hn : As.length = n) (hsize : g.locals.size = nL) (hstack : g.stack = As.reverse ++ .ref b :: rest) (hW : 2 * g.monitorRoom + (rest.map fun v => v.category).sum ≤ 8) (hdg : decode cc g.pc = .ok (.invokevirtual index, 3)) (hf : cells + mc ≤ R.cells ∧ slots + ms ≤ R.slots) :
    va_Run p l e R s m args below meth c H locs cells slots mc ms g rest (Qc (Value.ref b :: As).toArray) free := by
  obtain ⟨⟨hrc, hrs, hfr, hlo, hws, hcw⟩, hcode, hini, hy, hlen, hl, hin, hse⟩ := cw
  have hK : Back l R p e below s args y 3 8 (PreOf R mc ms Pc) (PostOf Qc mc ms free) := va_backW (hh := hh) (bytes := bytes) (maxL := maxL) (ret := ret) hM hp.1 hrc hrs hfr hlo hws hcw (fun a' U hW => word_at hW (Or.inl (by first | rfl | simp [Cond.onTables, Cond.keeps, Cond.steady])) hini)
  obtain ⟨hx, hb, hml, ho, -⟩ := S
  obtain ⟨-, ⟨cellB, hcB, hoB, hclB⟩, hPc⟩ := hp
  intro T hT X
  obtain ⟨v, vm₁, ⟨U', l2, c2, s2⟩, hW₁, X', ⟨g', mk, t, L, e1, e2, hq, h1, hL, h2, h3⟩, st⟩ := vx_callVW X hx (C := C) (hh := hh) (bytes := bytes) (maxL := maxL) (ret := ret) ho hl hin hse hcode hy hK (by rw [hT]; exact hcB) hoB hclB hg (hsize.trans hml.symm) (argsL := As) (rest := rest) (fun sig h => hn.trans (hlen sig h)) hstack hW (by rw [hb]; exact hdg)
    (fun vm₁ hW₁ => ⟨hf.1, hf.2, hPc (T.setVm vm₁) hT hW₁⟩)
  dsimp only [Pt.U, Pt.locs, Pt.cells, Pt.slots] at X' e1 e2 h1 h2 h3 st
  subst h1; subst h2; subst h3
  exact ⟨v, (T.setVm vm₁).calling g' mk (Value.ref b :: As).toArray, t, U', L, hT, X', hL, e1, e2, hq, st⟩
section
variable {y : MethodName} {bytes cc : ByteArray} {maxL nL mc ms n index : Nat} {ret : Option FieldType} {ws : List Cond} {rm : Room} {Pc : Array Value → State → Prop} {Qc : Array Value → State → Outcome → State → Prop} {XC : String → State → State → Prop} {free : Addr → Prop} {Ts : List Cond} {own C : String} {b : Addr} {As rest : List Value} {g : JFrame}
theorem vx_runVX {hh : List (Nat × Nat × Nat × Nat)} (S : CallFix p m c cc nL s args Ts own) (hM : vx_Met l y ws rm Pc Qc XC mc ms free) (cw : vx_CVW R s args own C index y bytes maxL ret hh ws rm mc ms n) (hp : PreV s H C b Pc As)
    (hg : g.method = m) (hn : As.length = n) (hsize : g.locals.size = nL) (hstack : g.stack = As.reverse ++ .ref b :: rest) (hW : 2 * g.monitorRoom + (rest.map fun v => v.category).sum ≤ 8) (hdg : decode cc g.pc = .ok (.invokevirtual index, 3)) (hf : cells + mc ≤ R.cells ∧ slots + ms ≤ R.slots) :
    vx_Run p l e R s m args below meth c H locs cells slots mc ms g rest (Qc (Value.ref b :: As).toArray) XC free := by
  obtain ⟨⟨hrc, hrs, hfr, hlo, hws, hcw⟩, hcode, hini, hy, hlen, hl, hin, hse⟩ := cw
  have hK : vx_Back l R p e below s args y 3 8 (PreOf R mc ms Pc) (PostOf Qc mc ms free) (vx_Post XC mc ms free) := vx_backW (hh := hh) (bytes := bytes) (maxL := maxL) (ret := ret) hM hp.1 hrc hrs hfr hlo hws hcw (fun a' U hW => word_at hW (Or.inl (by first | rfl | simp [Cond.onTables, Cond.keeps, Cond.steady])) hini)
  obtain ⟨hx, hb, hml, ho, -⟩ := S
  obtain ⟨-, ⟨cellB, hcB, hoB, hclB⟩, hPc⟩ := hp
  intro T hT X
  rcases vx_callVX X hx (C := C) (hh := hh) (bytes := bytes) (maxL := maxL) (ret := ret) ho hl hin hse hcode hy hK (by rw [hT]; exact hcB) hoB hclB hg (hsize.trans hml.symm) (argsL := As) (rest := rest) (fun sig h => hn.trans (hlen sig h)) hstack hW (by rw [hb]; exact hdg)
    (fun vm₁ hW₁ => ⟨hf.1, hf.2, hPc (T.setVm vm₁) hT hW₁⟩) with ⟨v, vm₁, ⟨U', l2, c2, s2⟩, hW₁, X', ⟨g', mk, t, L, e1, e2, hq, h1, hL, h2, h3⟩, st⟩ | ⟨q, vm₁, ⟨U', l2, c2, s2⟩, hW₁, X', ⟨g', mk, t, L, E, ce, e1, e2, hq, hce, hcv, hcl, h1, hL, h2, h3⟩, st⟩
  · dsimp only [Pt.U, Pt.locs, Pt.cells, Pt.slots] at X' e1 e2 h1 h2 h3 st
    subst h1; subst h2; subst h3
    exact Or.inl ⟨v, (T.setVm vm₁).calling g' mk (Value.ref b :: As).toArray, t, U', L, hT, X', hL, e1, e2, hq, st⟩
  · dsimp only [Pt.U, Pt.locs, Pt.cells, Pt.slots] at X' e1 e2 h1 h2 h3 st hcl
    subst h1; subst h2; subst h3
    exact Or.inr ⟨q, (T.setVm vm₁).calling g' mk (Value.ref b :: As).toArray, t, U', L, E, ce, hT, X', hL, e1, e2, hq, hce, hcv, vx_cls hW₁ hcl, st⟩
theorem vx_runSX {hh : List (Nat × Nat × Nat × Nat)} (S : CallFix p m c cc nL s args Ts own) (hM : vx_Met l y ws rm Pc Qc XC mc ms free) (cw : vx_CSW R s args own index y bytes maxL ret hh ws rm mc ms n) (hp : PreS s H Pc As)
    (hg : g.method = m) (hn : As.length = n) (hsize : g.locals.size = nL) (hstack : g.stack = As.reverse ++ rest) (hW : 2 * g.monitorRoom + (rest.map fun v => v.category).sum ≤ 8) (hdg : decode cc g.pc = .ok (.invokestatic index, 3)) (hf : cells + mc ≤ R.cells ∧ slots + ms ≤ R.slots) :
    vx_Run p l e R s m args below meth c H locs cells slots mc ms g rest (Qc As.toArray) XC free := by
  obtain ⟨⟨hrc, hrs, hfr, hlo, hws, hcw⟩, hcode, hini, hy, hlen, hl, hstt⟩ := cw
  have hK : vx_Back l R p e below s args y 3 8 (PreOf R mc ms Pc) (PostOf Qc mc ms free) (vx_Post XC mc ms free) := vx_backW (hh := hh) (bytes := bytes) (maxL := maxL) (ret := ret) hM hp.1 hrc hrs hfr hlo hws hcw (fun a' U hW => word_at hW (Or.inl (by first | rfl | simp [Cond.onTables, Cond.keeps, Cond.steady])) hini)
  obtain ⟨hx, hb, hml, ho, -⟩ := S
  intro T hT X
  rcases vx_callSX X hx (hh := hh) (bytes := bytes) (maxL := maxL) (ret := ret) ho hl hstt hini hcode hy hK hg (hsize.trans hml.symm) (argsL := As) (rest := rest) (fun sig h => hn.trans (hlen sig h)) hstack hW (by rw [hb]; exact hdg)
    (fun vm₁ hW₁ => ⟨hf.1, hf.2, hp.2 (T.setVm vm₁) hT hW₁⟩) with ⟨v, vm₁, ⟨U', l2, c2, s2⟩, hW₁, X', ⟨g', mk, t, L, e1, e2, hq, h1, hL, h2, h3⟩, st⟩ | ⟨q, vm₁, ⟨U', l2, c2, s2⟩, hW₁, X', ⟨g', mk, t, L, E, ce, e1, e2, hq, hce, hcv, hcl, h1, hL, h2, h3⟩, st⟩
  · dsimp only [Pt.U, Pt.locs, Pt.cells, Pt.slots] at X' e1 e2 h1 h2 h3 st
    subst h1; subst h2; subst h3
    exact Or.inl ⟨v, (T.setVm vm₁).calling g' mk As.toArray, t, U', L, hT, X', hL, e1, e2, hq, st⟩
  · dsimp only [Pt.U, Pt.locs, Pt.cells, Pt.slots] at X' e1 e2 h1 h2 h3 st hcl
    subst h1; subst h2; subst h3
    exact Or.inr ⟨q, (T.setVm vm₁).calling g' mk As.toArray, t, U', L, E, ce, hT, X', hL, e1, e2, hq, hce, hcv, vx_cls hW₁ hcl, st⟩
end
end VXH
theorem vx_ofWH {l : Launch} {y : MethodName} {ws ws' : List Cond} {rm : Room} {Pc : Array Value → State → Prop} {Qc : Array Value → State → Outcome → State → Prop} {XC : String → State → State → Prop} {mc ms : Nat} {free : Addr → Prop} {cc : ByteArray} {maxL : Nat} {ret : Option FieldType} {hh : List (Nat × Nat × Nat × Nat)}
    (hy : plainName y.cls = true) (hw : ws = Cond.codeWith y cc maxL ret hh :: ws')
    (body : ∀ p e s m args below meth c s₁, BodyLoose p l y (headSpec ws rm) cc maxL ret e s m args below meth c s₁ → c.maxLocals = maxL → Pc args s →
      W p l e (headSpec ws rm).room s m args below meth c s.heap [] 0 0 (vx_MQ below Qc XC args s mc ms free) (entryFrame m args maxL)) : vx_Met l y ws rm Pc Qc XC mc ms free := by
  refine MetFree.of_bodyS (code := cc) (maxLocals := maxL) (ret := ret) hy ?_ ?_
  · intro args s m h hn
    obtain ⟨m9, meth, c, hn9, h1, h2, h3, h4, -, h5, h6, -⟩ := Cond.codeWith_spec (atoms_spec (ws := ws) h _ (by rw [hw]; exact List.mem_cons_self))
    cases hn.symm.trans hn9
    exact ⟨meth, c, h1, h2, h3, h4, h5, h6⟩
  · intro p e s m args below meth c s₁ B hml hP _
    have hh0 : s₁.heap = s.heap := by rw [B.state]; rfl
    obtain ⟨t, a1, o, b1, b2, b3⟩ := body p e s m args below meth c s₁ B hml hP s₁ hh0 (Stand.of_body B)
    exact ⟨t, o, a1, b1, b2, b3⟩
/-! ===== END ===== -/

/-! ===== BEGIN printed: names, fields, word lists, decode rows ===== -/
def RX0 : String := "HundiHall$Broker"
def TX0 : u_T := fun k => match k with
  | 0 => ("HundiHall$Broker", "town", "I", false)
  | 1 => ("HundiHall$Broker", "cash", "J", false)
  | 2 => ("HundiHall$Broker", "rate", "I", false)
  | 3 => ("HundiHall$Broker", "state", "I", false)
  | 4 => ("HundiHall$Broker", "raidEnd", "I", false)
  | 5 => ("HundiHall$Broker", "wasRaided", "Z", false)
  | 6 => ("HundiHall$Broker", "limits", "[I", true)
  | _ => ("HundiHall$Broker", "isKin", "[Z", true)
def tyX0 : Nat → FieldType := fun k => match k with
  | 0 => .int
  | 1 => .long
  | 2 => .int
  | 3 => .int
  | 4 => .int
  | 5 => .boolean
  | 6 => .array .int
  | _ => .array .boolean
theorem nmX0 : ∀ a, a < 8 → ∀ b, b < 8 → a ≠ b → (TX0 a).2.1 ≠ (TX0 b).2.1 := by decide +kernel
theorem tyX0_ok : ∀ k, k < 8 → parseFieldDescriptor (TX0 k).2.2.1 = some (tyX0 k) := by decide +kernel
abbrev cX0_init : ByteArray := prog_2_method_1_code
def yX0_init : MethodName := ⟨RX0, "<init>", "()V"⟩
abbrev cX0_isGood : ByteArray := prog_2_method_2_code
def yX0_isGood : MethodName := ⟨RX0, "isGood", "()Z"⟩
abbrev cX0_limitNow : ByteArray := prog_2_method_3_code
def yX0_limitNow : MethodName := ⟨RX0, "limitNow", "(IZ)I"⟩
def RX1 : String := "HundiHall$Courier"
def TX1 : u_T := fun k => match k with
  | 0 => ("HundiHall$Courier", "from", "I", false)
  | 1 => ("HundiHall$Courier", "to", "I", false)
  | 2 => ("HundiHall$Courier", "amount", "I", false)
  | 3 => ("HundiHall$Courier", "hourDue", "I", false)
  | 4 => ("HundiHall$Courier", "isOnRoad", "Z", false)
  | _ => ("HundiHall$Courier", "isRobbed", "Z", false)
def tyX1 : Nat → FieldType := fun k => match k with
  | 0 => .int
  | 1 => .int
  | 2 => .int
  | 3 => .int
  | 4 => .boolean
  | _ => .boolean
theorem nmX1 : ∀ a, a < 6 → ∀ b, b < 6 → a ≠ b → (TX1 a).2.1 ≠ (TX1 b).2.1 := by decide +kernel
theorem tyX1_ok : ∀ k, k < 6 → parseFieldDescriptor (TX1 k).2.2.1 = some (tyX1 k) := by decide +kernel
abbrev cX1_init : ByteArray := prog_3_method_1_code
def yX1_init : MethodName := ⟨RX1, "<init>", "()V"⟩
def RX2 : String := "HundiHall$Ledger"
def TX2 : u_T := fun k => match k with
  | 0 => ("HundiHall$Ledger", "owed", "[[J", true)
  | _ => ("HundiHall$Ledger", "books", "[[J", true)
def tyX2 : Nat → FieldType := fun k => match k with
  | 0 => .array (.array .long)
  | _ => .array (.array .long)
theorem nmX2 : ∀ a, a < 2 → ∀ b, b < 2 → a ≠ b → (TX2 a).2.1 ≠ (TX2 b).2.1 := by decide +kernel
theorem tyX2_ok : ∀ k, k < 2 → parseFieldDescriptor (TX2 k).2.2.1 = some (tyX2 k) := by decide +kernel
abbrev cX2_init : ByteArray := prog_4_method_1_code
def yX2_init : MethodName := ⟨RX2, "<init>", "()V"⟩
abbrev cX2_change : ByteArray := prog_4_method_2_code
def yX2_change : MethodName := ⟨RX2, "change", "(IIJ)V"⟩
abbrev cX2_write : ByteArray := prog_4_method_3_code
def yX2_write : MethodName := ⟨RX2, "write", "(IIJ)V"⟩
abbrev cX2_changeKnown : ByteArray := prog_4_method_4_code
def yX2_changeKnown : MethodName := ⟨RX2, "changeKnown", "(IIJ)V"⟩
def RX3 : String := "HundiHall$Order"
def TX3 : u_T := fun k => match k with
  | 0 => ("HundiHall$Order", "amount", "I", false)
  | 1 => ("HundiHall$Order", "code", "I", false)
  | 2 => ("HundiHall$Order", "given", "I", false)
  | 3 => ("HundiHall$Order", "hourGiven", "I", false)
  | 4 => ("HundiHall$Order", "state", "I", false)
  | 5 => ("HundiHall$Order", "place", "I", false)
  | 6 => ("HundiHall$Order", "falseCodes", "I", false)
  | 7 => ("HundiHall$Order", "length", "I", false)
  | 8 => ("HundiHall$Order", "brokers", "[I", true)
  | _ => ("HundiHall$Order", "steps", "[I", true)
def tyX3 : Nat → FieldType := fun k => match k with
  | 0 => .int
  | 1 => .int
  | 2 => .int
  | 3 => .int
  | 4 => .int
  | 5 => .int
  | 6 => .int
  | 7 => .int
  | 8 => .array .int
  | _ => .array .int
theorem nmX3 : ∀ a, a < 10 → ∀ b, b < 10 → a ≠ b → (TX3 a).2.1 ≠ (TX3 b).2.1 := by decide +kernel
theorem tyX3_ok : ∀ k, k < 10 → parseFieldDescriptor (TX3 k).2.2.1 = some (tyX3 k) := by decide +kernel
abbrev cX3_init : ByteArray := prog_5_method_1_code
def yX3_init : MethodName := ⟨RX3, "<init>", "()V"⟩
abbrev cX3_firstBroker : ByteArray := prog_5_method_2_code
def yX3_firstBroker : MethodName := ⟨RX3, "firstBroker", "()I"⟩
abbrev cX3_lastBroker : ByteArray := prog_5_method_3_code
def yX3_lastBroker : MethodName := ⟨RX3, "lastBroker", "()I"⟩
abbrev cX3_brokerAt : ByteArray := prog_5_method_4_code
def yX3_brokerAt : MethodName := ⟨RX3, "brokerAt", "(I)I"⟩
abbrev cX3_isOpen : ByteArray := prog_5_method_5_code
def yX3_isOpen : MethodName := ⟨RX3, "isOpen", "()Z"⟩
abbrev cX3_isStillToPass : ByteArray := prog_5_method_6_code
def yX3_isStillToPass : MethodName := ⟨RX3, "isStillToPass", "(I)Z"⟩
abbrev cX3_takeWay : ByteArray := prog_5_method_7_code
def yX3_takeWay : MethodName := ⟨RX3, "takeWay", "(LHundiHall$WayFinder;I)V"⟩
def RX4 : String := "HundiHall$WayFinder"
def TX4 : u_T := fun k => match k with
  | 0 => ("HundiHall$WayFinder", "brokers", "[LHundiHall$Broker;", true)
  | 1 => ("HundiHall$WayFinder", "ledger", "LHundiHall$Ledger;", true)
  | 2 => ("HundiHall$WayFinder", "isOpen", "[Z", true)
  | 3 => ("HundiHall$WayFinder", "isReached", "[Z", true)
  | 4 => ("HundiHall$WayFinder", "isSettled", "[Z", true)
  | 5 => ("HundiHall$WayFinder", "fees", "[I", true)
  | 6 => ("HundiHall$WayFinder", "counts", "[I", true)
  | 7 => ("HundiHall$WayFinder", "path", "[I", true)
  | 8 => ("HundiHall$WayFinder", "length", "I", false)
  | 9 => ("HundiHall$WayFinder", "amount", "I", false)
  | _ => ("HundiHall$WayFinder", "isFestival", "Z", false)
def tyX4 : Nat → FieldType := fun k => match k with
  | 0 => .array (.object "HundiHall$Broker")
  | 1 => .object "HundiHall$Ledger"
  | 2 => .array .boolean
  | 3 => .array .boolean
  | 4 => .array .boolean
  | 5 => .array .int
  | 6 => .array .int
  | 7 => .array .int
  | 8 => .int
  | 9 => .int
  | _ => .boolean
theorem nmX4 : ∀ a, a < 11 → ∀ b, b < 11 → a ≠ b → (TX4 a).2.1 ≠ (TX4 b).2.1 := by decide +kernel
theorem tyX4_ok : ∀ k, k < 11 → parseFieldDescriptor (TX4 k).2.2.1 = some (tyX4 k) := by decide +kernel
abbrev cX4_init : ByteArray := prog_6_method_1_code
def yX4_init : MethodName := ⟨RX4, "<init>", "([LHundiHall$Broker;LHundiHall$Ledger;)V"⟩
abbrev cX4_start : ByteArray := prog_6_method_2_code
def yX4_start : MethodName := ⟨RX4, "start", "(IIZ)V"⟩
abbrev cX4_leaveOut : ByteArray := prog_6_method_3_code
def yX4_leaveOut : MethodName := ⟨RX4, "leaveOut", "(I)V"⟩
abbrev cX4_find : ByteArray := prog_6_method_4_code
def yX4_find : MethodName := ⟨RX4, "find", "(II)Z"⟩
abbrev cX4_allFees : ByteArray := prog_6_method_5_code
def yX4_allFees : MethodName := ⟨RX4, "allFees", "()I"⟩
abbrev cX4_feesBehindFirst : ByteArray := prog_6_method_6_code
def yX4_feesBehindFirst : MethodName := ⟨RX4, "feesBehindFirst", "()I"⟩
abbrev cX4_feeOf : ByteArray := prog_6_method_7_code
def yX4_feeOf : MethodName := ⟨RX4, "feeOf", "(I)I"⟩
abbrev cX4_canOwe : ByteArray := prog_6_method_8_code
def yX4_canOwe : MethodName := ⟨RX4, "canOwe", "(II)Z"⟩
abbrev cX4_startAt : ByteArray := prog_6_method_9_code
def yX4_startAt : MethodName := ⟨RX4, "startAt", "(I)V"⟩
abbrev cX4_bestUnsettled : ByteArray := prog_6_method_10_code
def yX4_bestUnsettled : MethodName := ⟨RX4, "bestUnsettled", "()I"⟩
abbrev cX4_isBetter : ByteArray := prog_6_method_11_code
def yX4_isBetter : MethodName := ⟨RX4, "isBetter", "(III)Z"⟩
abbrev cX4_reachFromBest : ByteArray := prog_6_method_12_code
def yX4_reachFromBest : MethodName := ⟨RX4, "reachFromBest", "()V"⟩
abbrev cX4_follow : ByteArray := prog_6_method_13_code
def yX4_follow : MethodName := ⟨RX4, "follow", "(II)V"⟩
abbrev cX4_nextOf : ByteArray := prog_6_method_14_code
def yX4_nextOf : MethodName := ⟨RX4, "nextOf", "(I)I"⟩
def RX5 : String := "HundiHall"
def TX5 : u_T := fun k => match k with
  | 0 => ("HundiHall", "brokers", "[LHundiHall$Broker;", true)
  | 1 => ("HundiHall", "orders", "[LHundiHall$Order;", true)
  | 2 => ("HundiHall", "couriers", "[LHundiHall$Courier;", true)
  | 3 => ("HundiHall", "ledger", "LHundiHall$Ledger;", true)
  | 4 => ("HundiHall", "finder", "LHundiHall$WayFinder;", true)
  | 5 => ("HundiHall", "bounds", "[I", true)
  | 6 => ("HundiHall", "told", "[I", true)
  | 7 => ("HundiHall", "listed", "[Z", true)
  | 8 => ("HundiHall", "brokerCount", "I", false)
  | 9 => ("HundiHall", "orderCount", "I", false)
  | 10 => ("HundiHall", "courierCount", "I", false)
  | 11 => ("HundiHall", "hour", "I", false)
  | 12 => ("HundiHall", "isFestival", "Z", false)
  | _ => ("HundiHall", "seized", "J", false)
def tyX5 : Nat → FieldType := fun k => match k with
  | 0 => .array (.object "HundiHall$Broker")
  | 1 => .array (.object "HundiHall$Order")
  | 2 => .array (.object "HundiHall$Courier")
  | 3 => .object "HundiHall$Ledger"
  | 4 => .object "HundiHall$WayFinder"
  | 5 => .array .int
  | 6 => .array .int
  | 7 => .array .boolean
  | 8 => .int
  | 9 => .int
  | 10 => .int
  | 11 => .int
  | 12 => .boolean
  | _ => .long
theorem nmX5 : ∀ a, a < 14 → ∀ b, b < 14 → a ≠ b → (TX5 a).2.1 ≠ (TX5 b).2.1 := by decide +kernel
theorem tyX5_ok : ∀ k, k < 14 → parseFieldDescriptor (TX5 k).2.2.1 = some (tyX5 k) := by decide +kernel
abbrev cX5_init : ByteArray := prog_1_method_1_code
def yX5_init : MethodName := ⟨RX5, "<init>", "()V"⟩
abbrev cX5_broker : ByteArray := prog_1_method_2_code
def yX5_broker : MethodName := ⟨RX5, "broker", "(III)I"⟩
abbrev cX5_rate : ByteArray := prog_1_method_3_code
def yX5_rate : MethodName := ⟨RX5, "rate", "(II)I"⟩
abbrev cX5_trust : ByteArray := prog_1_method_4_code
def yX5_trust : MethodName := ⟨RX5, "trust", "(IIIZ)V"⟩
abbrev cX5_festival : ByteArray := prog_1_method_5_code
def yX5_festival : MethodName := ⟨RX5, "festival", "()Z"⟩
abbrev cX5_breakWord : ByteArray := prog_1_method_6_code
def yX5_breakWord : MethodName := ⟨RX5, "breakWord", "(I)I"⟩
abbrev cX5_raid : ByteArray := prog_1_method_7_code
def yX5_raid : MethodName := ⟨RX5, "raid", "(I)I"⟩
abbrev cX5_order : ByteArray := prog_1_method_8_code
def yX5_order : MethodName := ⟨RX5, "order", "(IIIII)I"⟩
abbrev cX5_fetch : ByteArray := prog_1_method_9_code
def yX5_fetch : MethodName := ⟨RX5, "fetch", "(II)I"⟩
abbrev cX5_pass : ByteArray := prog_1_method_10_code
def yX5_pass : MethodName := ⟨RX5, "pass", "(I)I"⟩
abbrev cX5_pay : ByteArray := prog_1_method_11_code
def yX5_pay : MethodName := ⟨RX5, "pay", "(III)I"⟩
abbrev cX5_deliver : ByteArray := prog_1_method_12_code
def yX5_deliver : MethodName := ⟨RX5, "deliver", "(III)I"⟩
abbrev cX5_courier : ByteArray := prog_1_method_13_code
def yX5_courier : MethodName := ⟨RX5, "courier", "(IIII)I"⟩
abbrev cX5_rob : ByteArray := prog_1_method_14_code
def yX5_rob : MethodName := ⟨RX5, "rob", "(I)I"⟩
abbrev cX5_ring : ByteArray := prog_1_method_15_code
def yX5_ring : MethodName := ⟨RX5, "ring", "()J"⟩
abbrev cX5_law : ByteArray := prog_1_method_16_code
def yX5_law : MethodName := ⟨RX5, "law", "(II)I"⟩
abbrev cX5_list : ByteArray := prog_1_method_17_code
def yX5_list : MethodName := ⟨RX5, "list", "(I)Z"⟩
abbrev cX5_brokerOf : ByteArray := prog_1_method_18_code
def yX5_brokerOf : MethodName := ⟨RX5, "brokerOf", "(II)J"⟩
abbrev cX5_debt : ByteArray := prog_1_method_19_code
def yX5_debt : MethodName := ⟨RX5, "debt", "(IIZ)J"⟩
abbrev cX5_agree : ByteArray := prog_1_method_20_code
def yX5_agree : MethodName := ⟨RX5, "agree", "(II)Z"⟩
abbrev cX5_way : ByteArray := prog_1_method_21_code
def yX5_way : MethodName := ⟨RX5, "way", "(IIII)I"⟩
abbrev cX5_wayOf : ByteArray := prog_1_method_22_code
def yX5_wayOf : MethodName := ⟨RX5, "wayOf", "(II)I"⟩
abbrev cX5_orderOf : ByteArray := prog_1_method_23_code
def yX5_orderOf : MethodName := ⟨RX5, "orderOf", "(II)I"⟩
abbrev cX5_inquiry : ByteArray := prog_1_method_24_code
def yX5_inquiry : MethodName := ⟨RX5, "inquiry", "()I"⟩
abbrev cX5_sum : ByteArray := prog_1_method_25_code
def yX5_sum : MethodName := ⟨RX5, "sum", "(I)J"⟩
abbrev cX5_requireIndex : ByteArray := prog_1_method_26_code
def yX5_requireIndex : MethodName := ⟨RX5, "requireIndex", "(II)V"⟩
abbrev cX5_requirePlace : ByteArray := prog_1_method_27_code
def yX5_requirePlace : MethodName := ⟨RX5, "requirePlace", "(I)V"⟩
abbrev cX5_requireRange : ByteArray := prog_1_method_28_code
def yX5_requireRange : MethodName := ⟨RX5, "requireRange", "(III)V"⟩
abbrev cX5_requireState : ByteArray := prog_1_method_29_code
def yX5_requireState : MethodName := ⟨RX5, "requireState", "(Z)V"⟩
abbrev cX5_requireTwoBrokers : ByteArray := prog_1_method_30_code
def yX5_requireTwoBrokers : MethodName := ⟨RX5, "requireTwoBrokers", "(II)V"⟩
abbrev cX5_findWay : ByteArray := prog_1_method_31_code
def yX5_findWay : MethodName := ⟨RX5, "findWay", "(III)Z"⟩
abbrev cX5_letArise : ByteArray := prog_1_method_32_code
def yX5_letArise : MethodName := ⟨RX5, "letArise", "(LHundiHall$Order;)V"⟩
abbrev cX5_takeBack : ByteArray := prog_1_method_33_code
def yX5_takeBack : MethodName := ⟨RX5, "takeBack", "(LHundiHall$Order;II)V"⟩
abbrev cX5_goBack : ByteArray := prog_1_method_34_code
def yX5_goBack : MethodName := ⟨RX5, "goBack", "(LHundiHall$Order;)V"⟩
abbrev cX5_endForward : ByteArray := prog_1_method_35_code
def yX5_endForward : MethodName := ⟨RX5, "endForward", "(LHundiHall$Order;)V"⟩
abbrev cX5_loseOrdersFrom : ByteArray := prog_1_method_36_code
def yX5_loseOrdersFrom : MethodName := ⟨RX5, "loseOrdersFrom", "(I)I"⟩
abbrev cX5_avoid : ByteArray := prog_1_method_37_code
def yX5_avoid : MethodName := ⟨RX5, "avoid", "(I)V"⟩
abbrev cX5_lookAnew : ByteArray := prog_1_method_38_code
def yX5_lookAnew : MethodName := ⟨RX5, "lookAnew", "(LHundiHall$Order;)V"⟩
abbrev cX5_tellTown : ByteArray := prog_1_method_39_code
def yX5_tellTown : MethodName := ⟨RX5, "tellTown", "(II)V"⟩
abbrev cX5_passHour : ByteArray := prog_1_method_40_code
def yX5_passHour : MethodName := ⟨RX5, "passHour", "()V"⟩
abbrev cX5_endRaids : ByteArray := prog_1_method_41_code
def yX5_endRaids : MethodName := ⟨RX5, "endRaids", "()V"⟩
abbrev cX5_moveMessages : ByteArray := prog_1_method_42_code
def yX5_moveMessages : MethodName := ⟨RX5, "moveMessages", "()V"⟩
abbrev cX5_sendBackOld : ByteArray := prog_1_method_43_code
def yX5_sendBackOld : MethodName := ⟨RX5, "sendBackOld", "()V"⟩
abbrev cX5_giveBack : ByteArray := prog_1_method_44_code
def yX5_giveBack : MethodName := ⟨RX5, "giveBack", "()V"⟩
abbrev cX5_receiveCouriers : ByteArray := prog_1_method_45_code
def yX5_receiveCouriers : MethodName := ⟨RX5, "receiveCouriers", "()V"⟩
abbrev cX5_clearRing : ByteArray := prog_1_method_46_code
def yX5_clearRing : MethodName := ⟨RX5, "clearRing", "(III)J"⟩
abbrev cX5_worthOf : ByteArray := prog_1_method_47_code
def yX5_worthOf : MethodName := ⟨RX5, "worthOf", "(I)J"⟩
abbrev cX5_namedByBook : ByteArray := prog_1_method_48_code
def yX5_namedByBook : MethodName := ⟨RX5, "namedByBook", "(I)I"⟩
abbrev cX5_sumGiven : ByteArray := prog_1_method_49_code
def yX5_sumGiven : MethodName := ⟨RX5, "sumGiven", "()J"⟩
abbrev cX5_sumGivenIn : ByteArray := prog_1_method_50_code
def yX5_sumGivenIn : MethodName := ⟨RX5, "sumGivenIn", "(I)J"⟩
abbrev cX5_sumPaidOut : ByteArray := prog_1_method_51_code
def yX5_sumPaidOut : MethodName := ⟨RX5, "sumPaidOut", "()J"⟩
abbrev cX5_sumRobbed : ByteArray := prog_1_method_52_code
def yX5_sumRobbed : MethodName := ⟨RX5, "sumRobbed", "()J"⟩
abbrev cX5_sumOnRoad : ByteArray := prog_1_method_53_code
def yX5_sumOnRoad : MethodName := ⟨RX5, "sumOnRoad", "()J"⟩
abbrev cX5_sumCash : ByteArray := prog_1_method_54_code
def yX5_sumCash : MethodName := ⟨RX5, "sumCash", "()J"⟩
def RX6 : String := "HundiHallModel"
def TX6 : u_T := fun k => match k with
  | _ => ("", "", "", false)
def tyX6 : Nat → FieldType := fun k => match k with
  | _ => .int
theorem nmX6 : ∀ a, a < 0 → ∀ b, b < 0 → a ≠ b → (TX6 a).2.1 ≠ (TX6 b).2.1 := by decide +kernel
theorem tyX6_ok : ∀ k, k < 0 → parseFieldDescriptor (TX6 k).2.2.1 = some (tyX6 k) := by decide +kernel
def RJ9 : String := "java/lang/Math"
def TJ9 : u_T := fun k => match k with
  | _ => ("", "", "", false)
def tyJ9 : Nat → FieldType := fun k => match k with
  | _ => .int
theorem nmJ9 : ∀ a, a < 0 → ∀ b, b < 0 → a ≠ b → (TJ9 a).2.1 ≠ (TJ9 b).2.1 := by decide +kernel
theorem tyJ9_ok : ∀ k, k < 0 → parseFieldDescriptor (TJ9 k).2.2.1 = some (tyJ9 k) := by decide +kernel
abbrev cJ9_min_f86c9 : ByteArray := prog_13_method_70_code
def yJ9_min_f86c9 : MethodName := ⟨RJ9, "min", "(JJ)J"⟩
def RJ0 : String := "java/lang/String"
def TJ0 : u_T := fun k => match k with
  | _ => ("", "", "", false)
def tyJ0 : Nat → FieldType := fun k => match k with
  | _ => .int
theorem nmJ0 : ∀ a, a < 0 → ∀ b, b < 0 → a ≠ b → (TJ0 a).2.1 ≠ (TJ0 b).2.1 := by decide +kernel
theorem tyJ0_ok : ∀ k, k < 0 → parseFieldDescriptor (TJ0 k).2.2.1 = some (tyJ0 k) := by decide +kernel
def RL : String := "HundiHallLaw"
abbrev cL_cell : ByteArray := method_2_code
def yL_cell : MethodName := ⟨RL, "cell", "([II)I"⟩
abbrev cL_low : ByteArray := method_3_code
def yL_low : MethodName := ⟨RL, "low", "(II)I"⟩
abbrev cL_broker : ByteArray := method_4_code
def yL_broker : MethodName := ⟨RL, "broker", "(LHundiHall;III)J"⟩
abbrev cL_rate : ByteArray := method_5_code
def yL_rate : MethodName := ⟨RL, "rate", "(LHundiHall;II)J"⟩
abbrev cL_trust : ByteArray := method_6_code
def yL_trust : MethodName := ⟨RL, "trust", "(LHundiHall;IIIZ)J"⟩
abbrev cL_breakWord : ByteArray := method_7_code
def yL_breakWord : MethodName := ⟨RL, "breakWord", "(LHundiHall;I)J"⟩
abbrev cL_raid : ByteArray := method_8_code
def yL_raid : MethodName := ⟨RL, "raid", "(LHundiHall;I)J"⟩
abbrev cL_order : ByteArray := method_9_code
def yL_order : MethodName := ⟨RL, "order", "(LHundiHall;IIIII)J"⟩
abbrev cL_fetch : ByteArray := method_10_code
def yL_fetch : MethodName := ⟨RL, "fetch", "(LHundiHall;II)J"⟩
abbrev cL_pass : ByteArray := method_11_code
def yL_pass : MethodName := ⟨RL, "pass", "(LHundiHall;I)J"⟩
abbrev cL_pay : ByteArray := method_12_code
def yL_pay : MethodName := ⟨RL, "pay", "(LHundiHall;III)J"⟩
abbrev cL_deliver : ByteArray := method_13_code
def yL_deliver : MethodName := ⟨RL, "deliver", "(LHundiHall;III)J"⟩
abbrev cL_courier : ByteArray := method_14_code
def yL_courier : MethodName := ⟨RL, "courier", "(LHundiHall;IIII)J"⟩
abbrev cL_rob : ByteArray := method_15_code
def yL_rob : MethodName := ⟨RL, "rob", "(LHundiHall;I)J"⟩
abbrev cL_lawOf : ByteArray := method_16_code
def yL_lawOf : MethodName := ⟨RL, "lawOf", "(LHundiHall;II)J"⟩
abbrev cL_list : ByteArray := method_17_code
def yL_list : MethodName := ⟨RL, "list", "(LHundiHall;I)J"⟩
abbrev cL_brokerOf : ByteArray := method_18_code
def yL_brokerOf : MethodName := ⟨RL, "brokerOf", "(LHundiHall;II)J"⟩
abbrev cL_debt : ByteArray := method_19_code
def yL_debt : MethodName := ⟨RL, "debt", "(LHundiHall;IIZ)J"⟩
abbrev cL_way : ByteArray := method_21_code
def yL_way : MethodName := ⟨RL, "way", "(LHundiHall;IIII)J"⟩
abbrev cL_wayOf : ByteArray := method_22_code
def yL_wayOf : MethodName := ⟨RL, "wayOf", "(LHundiHall;II)J"⟩
abbrev cL_orderOf : ByteArray := method_23_code
def yL_orderOf : MethodName := ⟨RL, "orderOf", "(LHundiHall;II)J"⟩
abbrev cL_sum : ByteArray := method_24_code
def yL_sum : MethodName := ⟨RL, "sum", "(LHundiHall;I)J"⟩
abbrev cL_act : ByteArray := method_25_code
def yL_act : MethodName := ⟨RL, "act", "(LHundiHall;I)J"⟩
abbrev cL_areAlike : ByteArray := method_26_code
def yL_areAlike : MethodName := ⟨RL, "areAlike", "(LHundiHall;LHundiHall;I)Z"⟩
abbrev cL_isSo : ByteArray := method_27_code
def yL_isSo : MethodName := ⟨RL, "isSo", "(LHundiHall;J)Z"⟩
abbrev cL_law : ByteArray := code
def yL_law : MethodName := ⟨RL, "law", "([I)Z"⟩
theorem dX0_init_0 : decode cX0_init 0 = .ok (.aload_n 0, 1) := by decide +kernel
theorem dX0_init_1 : decode cX0_init 1 = .ok (.invokespecial 3, 3) := by decide +kernel
theorem dX0_init_4 : decode cX0_init 4 = .ok (.aload_n 0, 1) := by decide +kernel
theorem dX0_init_5 : decode cX0_init 5 = .ok (.bipush 12, 2) := by decide +kernel
theorem dX0_init_7 : decode cX0_init 7 = .ok (.newarray .int, 2) := by decide +kernel
theorem dX0_init_9 : decode cX0_init 9 = .ok (.putfield 9, 3) := by decide +kernel
theorem dX0_init_12 : decode cX0_init 12 = .ok (.aload_n 0, 1) := by decide +kernel
theorem dX0_init_13 : decode cX0_init 13 = .ok (.bipush 12, 2) := by decide +kernel
theorem dX0_init_15 : decode cX0_init 15 = .ok (.newarray .boolean, 2) := by decide +kernel
theorem dX0_init_17 : decode cX0_init 17 = .ok (.putfield 15, 3) := by decide +kernel
theorem dX0_init_20 : decode cX0_init 20 = .ok (.return_, 1) := by decide +kernel
theorem dX0_isGood_0 : decode cX0_isGood 0 = .ok (.aload_n 0, 1) := by decide +kernel
theorem dX0_isGood_1 : decode cX0_isGood 1 = .ok (.getfield 19, 3) := by decide +kernel
theorem dX0_isGood_4 : decode cX0_isGood 4 = .ok (.ifCond .ne 7, 3) := by decide +kernel
theorem dX0_isGood_7 : decode cX0_isGood 7 = .ok (.iconst 1, 1) := by decide +kernel
theorem dX0_isGood_8 : decode cX0_isGood 8 = .ok (.goto 4, 3) := by decide +kernel
theorem dX0_isGood_11 : decode cX0_isGood 11 = .ok (.iconst 0, 1) := by decide +kernel
theorem dX0_isGood_12 : decode cX0_isGood 12 = .ok (.ireturn, 1) := by decide +kernel
theorem dX0_limitNow_0 : decode cX0_limitNow 0 = .ok (.iload_n 2, 1) := by decide +kernel
theorem dX0_limitNow_1 : decode cX0_limitNow 1 = .ok (.ifCond .eq 23, 3) := by decide +kernel
theorem dX0_limitNow_4 : decode cX0_limitNow 4 = .ok (.aload_n 0, 1) := by decide +kernel
theorem dX0_limitNow_5 : decode cX0_limitNow 5 = .ok (.getfield 15, 3) := by decide +kernel
theorem dX0_limitNow_8 : decode cX0_limitNow 8 = .ok (.iload_n 1, 1) := by decide +kernel
theorem dX0_limitNow_9 : decode cX0_limitNow 9 = .ok (.baload, 1) := by decide +kernel
theorem dX0_limitNow_10 : decode cX0_limitNow 10 = .ok (.ifCond .eq 14, 3) := by decide +kernel
theorem dX0_limitNow_13 : decode cX0_limitNow 13 = .ok (.iconst 2, 1) := by decide +kernel
theorem dX0_limitNow_14 : decode cX0_limitNow 14 = .ok (.aload_n 0, 1) := by decide +kernel
theorem dX0_limitNow_15 : decode cX0_limitNow 15 = .ok (.getfield 9, 3) := by decide +kernel
theorem dX0_limitNow_18 : decode cX0_limitNow 18 = .ok (.iload_n 1, 1) := by decide +kernel
theorem dX0_limitNow_19 : decode cX0_limitNow 19 = .ok (.iaload, 1) := by decide +kernel
theorem dX0_limitNow_20 : decode cX0_limitNow 20 = .ok (.imul, 1) := by decide +kernel
theorem dX0_limitNow_21 : decode cX0_limitNow 21 = .ok (.goto 9, 3) := by decide +kernel
theorem dX0_limitNow_24 : decode cX0_limitNow 24 = .ok (.aload_n 0, 1) := by decide +kernel
theorem dX0_limitNow_25 : decode cX0_limitNow 25 = .ok (.getfield 9, 3) := by decide +kernel
theorem dX0_limitNow_28 : decode cX0_limitNow 28 = .ok (.iload_n 1, 1) := by decide +kernel
theorem dX0_limitNow_29 : decode cX0_limitNow 29 = .ok (.iaload, 1) := by decide +kernel
theorem dX0_limitNow_30 : decode cX0_limitNow 30 = .ok (.ireturn, 1) := by decide +kernel
theorem dX1_init_0 : decode cX1_init 0 = .ok (.aload_n 0, 1) := by decide +kernel
theorem dX1_init_1 : decode cX1_init 1 = .ok (.invokespecial 1, 3) := by decide +kernel
theorem dX1_init_4 : decode cX1_init 4 = .ok (.return_, 1) := by decide +kernel
theorem dX2_init_0 : decode cX2_init 0 = .ok (.aload_n 0, 1) := by decide +kernel
theorem dX2_init_1 : decode cX2_init 1 = .ok (.invokespecial 3, 3) := by decide +kernel
theorem dX2_init_4 : decode cX2_init 4 = .ok (.aload_n 0, 1) := by decide +kernel
theorem dX2_init_5 : decode cX2_init 5 = .ok (.bipush 12, 2) := by decide +kernel
theorem dX2_init_7 : decode cX2_init 7 = .ok (.bipush 12, 2) := by decide +kernel
theorem dX2_init_9 : decode cX2_init 9 = .ok (.multianewarray 9 2, 4) := by decide +kernel
theorem dX2_init_13 : decode cX2_init 13 = .ok (.putfield 11, 3) := by decide +kernel
theorem dX2_init_16 : decode cX2_init 16 = .ok (.aload_n 0, 1) := by decide +kernel
theorem dX2_init_17 : decode cX2_init 17 = .ok (.bipush 12, 2) := by decide +kernel
theorem dX2_init_19 : decode cX2_init 19 = .ok (.bipush 12, 2) := by decide +kernel
theorem dX2_init_21 : decode cX2_init 21 = .ok (.multianewarray 9 2, 4) := by decide +kernel
theorem dX2_init_25 : decode cX2_init 25 = .ok (.putfield 16, 3) := by decide +kernel
theorem dX2_init_28 : decode cX2_init 28 = .ok (.return_, 1) := by decide +kernel
theorem dX2_change_0 : decode cX2_change 0 = .ok (.aload_n 0, 1) := by decide +kernel
theorem dX2_change_1 : decode cX2_change 1 = .ok (.getfield 11, 3) := by decide +kernel
theorem dX2_change_4 : decode cX2_change 4 = .ok (.iload_n 1, 1) := by decide +kernel
theorem dX2_change_5 : decode cX2_change 5 = .ok (.aaload, 1) := by decide +kernel
theorem dX2_change_6 : decode cX2_change 6 = .ok (.iload_n 2, 1) := by decide +kernel
theorem dX2_change_7 : decode cX2_change 7 = .ok (.dup2, 1) := by decide +kernel
theorem dX2_change_8 : decode cX2_change 8 = .ok (.laload, 1) := by decide +kernel
theorem dX2_change_9 : decode cX2_change 9 = .ok (.lload_n 3, 1) := by decide +kernel
theorem dX2_change_10 : decode cX2_change 10 = .ok (.ladd, 1) := by decide +kernel
theorem dX2_change_11 : decode cX2_change 11 = .ok (.lastore, 1) := by decide +kernel
theorem dX2_change_12 : decode cX2_change 12 = .ok (.aload_n 0, 1) := by decide +kernel
theorem dX2_change_13 : decode cX2_change 13 = .ok (.getfield 11, 3) := by decide +kernel
theorem dX2_change_16 : decode cX2_change 16 = .ok (.iload_n 2, 1) := by decide +kernel
theorem dX2_change_17 : decode cX2_change 17 = .ok (.aaload, 1) := by decide +kernel
theorem dX2_change_18 : decode cX2_change 18 = .ok (.iload_n 1, 1) := by decide +kernel
theorem dX2_change_19 : decode cX2_change 19 = .ok (.dup2, 1) := by decide +kernel
theorem dX2_change_20 : decode cX2_change 20 = .ok (.laload, 1) := by decide +kernel
theorem dX2_change_21 : decode cX2_change 21 = .ok (.lload_n 3, 1) := by decide +kernel
theorem dX2_change_22 : decode cX2_change 22 = .ok (.lsub, 1) := by decide +kernel
theorem dX2_change_23 : decode cX2_change 23 = .ok (.lastore, 1) := by decide +kernel
theorem dX2_change_24 : decode cX2_change 24 = .ok (.return_, 1) := by decide +kernel
theorem dX2_write_0 : decode cX2_write 0 = .ok (.aload_n 0, 1) := by decide +kernel
theorem dX2_write_1 : decode cX2_write 1 = .ok (.getfield 16, 3) := by decide +kernel
theorem dX2_write_4 : decode cX2_write 4 = .ok (.iload_n 1, 1) := by decide +kernel
theorem dX2_write_5 : decode cX2_write 5 = .ok (.aaload, 1) := by decide +kernel
theorem dX2_write_6 : decode cX2_write 6 = .ok (.iload_n 2, 1) := by decide +kernel
theorem dX2_write_7 : decode cX2_write 7 = .ok (.dup2, 1) := by decide +kernel
theorem dX2_write_8 : decode cX2_write 8 = .ok (.laload, 1) := by decide +kernel
theorem dX2_write_9 : decode cX2_write 9 = .ok (.lload_n 3, 1) := by decide +kernel
theorem dX2_write_10 : decode cX2_write 10 = .ok (.ladd, 1) := by decide +kernel
theorem dX2_write_11 : decode cX2_write 11 = .ok (.lastore, 1) := by decide +kernel
theorem dX2_write_12 : decode cX2_write 12 = .ok (.return_, 1) := by decide +kernel
theorem dX2_changeKnown_0 : decode cX2_changeKnown 0 = .ok (.aload_n 0, 1) := by decide +kernel
theorem dX2_changeKnown_1 : decode cX2_changeKnown 1 = .ok (.iload_n 1, 1) := by decide +kernel
theorem dX2_changeKnown_2 : decode cX2_changeKnown 2 = .ok (.iload_n 2, 1) := by decide +kernel
theorem dX2_changeKnown_3 : decode cX2_changeKnown 3 = .ok (.lload_n 3, 1) := by decide +kernel
theorem dX2_changeKnown_4 : decode cX2_changeKnown 4 = .ok (.invokevirtual 19, 3) := by decide +kernel
theorem dX2_changeKnown_7 : decode cX2_changeKnown 7 = .ok (.aload_n 0, 1) := by decide +kernel
theorem dX2_changeKnown_8 : decode cX2_changeKnown 8 = .ok (.iload_n 1, 1) := by decide +kernel
theorem dX2_changeKnown_9 : decode cX2_changeKnown 9 = .ok (.iload_n 2, 1) := by decide +kernel
theorem dX2_changeKnown_10 : decode cX2_changeKnown 10 = .ok (.lload_n 3, 1) := by decide +kernel
theorem dX2_changeKnown_11 : decode cX2_changeKnown 11 = .ok (.invokevirtual 23, 3) := by decide +kernel
theorem dX2_changeKnown_14 : decode cX2_changeKnown 14 = .ok (.aload_n 0, 1) := by decide +kernel
theorem dX2_changeKnown_15 : decode cX2_changeKnown 15 = .ok (.iload_n 2, 1) := by decide +kernel
theorem dX2_changeKnown_16 : decode cX2_changeKnown 16 = .ok (.iload_n 1, 1) := by decide +kernel
theorem dX2_changeKnown_17 : decode cX2_changeKnown 17 = .ok (.lload_n 3, 1) := by decide +kernel
theorem dX2_changeKnown_18 : decode cX2_changeKnown 18 = .ok (.lneg, 1) := by decide +kernel
theorem dX2_changeKnown_19 : decode cX2_changeKnown 19 = .ok (.invokevirtual 23, 3) := by decide +kernel
theorem dX2_changeKnown_22 : decode cX2_changeKnown 22 = .ok (.return_, 1) := by decide +kernel
theorem dX3_init_0 : decode cX3_init 0 = .ok (.aload_n 0, 1) := by decide +kernel
theorem dX3_init_1 : decode cX3_init 1 = .ok (.invokespecial 3, 3) := by decide +kernel
theorem dX3_init_4 : decode cX3_init 4 = .ok (.aload_n 0, 1) := by decide +kernel
theorem dX3_init_5 : decode cX3_init 5 = .ok (.bipush 12, 2) := by decide +kernel
theorem dX3_init_7 : decode cX3_init 7 = .ok (.newarray .int, 2) := by decide +kernel
theorem dX3_init_9 : decode cX3_init 9 = .ok (.putfield 9, 3) := by decide +kernel
theorem dX3_init_12 : decode cX3_init 12 = .ok (.aload_n 0, 1) := by decide +kernel
theorem dX3_init_13 : decode cX3_init 13 = .ok (.bipush 12, 2) := by decide +kernel
theorem dX3_init_15 : decode cX3_init 15 = .ok (.newarray .int, 2) := by decide +kernel
theorem dX3_init_17 : decode cX3_init 17 = .ok (.putfield 15, 3) := by decide +kernel
theorem dX3_init_20 : decode cX3_init 20 = .ok (.return_, 1) := by decide +kernel
theorem dX3_firstBroker_0 : decode cX3_firstBroker 0 = .ok (.aload_n 0, 1) := by decide +kernel
theorem dX3_firstBroker_1 : decode cX3_firstBroker 1 = .ok (.getfield 9, 3) := by decide +kernel
theorem dX3_firstBroker_4 : decode cX3_firstBroker 4 = .ok (.iconst 0, 1) := by decide +kernel
theorem dX3_firstBroker_5 : decode cX3_firstBroker 5 = .ok (.iaload, 1) := by decide +kernel
theorem dX3_firstBroker_6 : decode cX3_firstBroker 6 = .ok (.ireturn, 1) := by decide +kernel
theorem dX3_lastBroker_0 : decode cX3_lastBroker 0 = .ok (.aload_n 0, 1) := by decide +kernel
theorem dX3_lastBroker_1 : decode cX3_lastBroker 1 = .ok (.getfield 18, 3) := by decide +kernel
theorem dX3_lastBroker_4 : decode cX3_lastBroker 4 = .ok (.ifCond .le 29, 3) := by decide +kernel
theorem dX3_lastBroker_7 : decode cX3_lastBroker 7 = .ok (.aload_n 0, 1) := by decide +kernel
theorem dX3_lastBroker_8 : decode cX3_lastBroker 8 = .ok (.getfield 18, 3) := by decide +kernel
theorem dX3_lastBroker_11 : decode cX3_lastBroker 11 = .ok (.aload_n 0, 1) := by decide +kernel
theorem dX3_lastBroker_12 : decode cX3_lastBroker 12 = .ok (.getfield 9, 3) := by decide +kernel
theorem dX3_lastBroker_15 : decode cX3_lastBroker 15 = .ok (.arraylength, 1) := by decide +kernel
theorem dX3_lastBroker_16 : decode cX3_lastBroker 16 = .ok (.if_icmp .gt 17, 3) := by decide +kernel
theorem dX3_lastBroker_19 : decode cX3_lastBroker 19 = .ok (.aload_n 0, 1) := by decide +kernel
theorem dX3_lastBroker_20 : decode cX3_lastBroker 20 = .ok (.getfield 9, 3) := by decide +kernel
theorem dX3_lastBroker_23 : decode cX3_lastBroker 23 = .ok (.aload_n 0, 1) := by decide +kernel
theorem dX3_lastBroker_24 : decode cX3_lastBroker 24 = .ok (.getfield 18, 3) := by decide +kernel
theorem dX3_lastBroker_27 : decode cX3_lastBroker 27 = .ok (.iconst 1, 1) := by decide +kernel
theorem dX3_lastBroker_28 : decode cX3_lastBroker 28 = .ok (.isub, 1) := by decide +kernel
theorem dX3_lastBroker_29 : decode cX3_lastBroker 29 = .ok (.iaload, 1) := by decide +kernel
theorem dX3_lastBroker_30 : decode cX3_lastBroker 30 = .ok (.goto 9, 3) := by decide +kernel
theorem dX3_lastBroker_33 : decode cX3_lastBroker 33 = .ok (.aload_n 0, 1) := by decide +kernel
theorem dX3_lastBroker_34 : decode cX3_lastBroker 34 = .ok (.getfield 9, 3) := by decide +kernel
theorem dX3_lastBroker_37 : decode cX3_lastBroker 37 = .ok (.iconst 0, 1) := by decide +kernel
theorem dX3_lastBroker_38 : decode cX3_lastBroker 38 = .ok (.iaload, 1) := by decide +kernel
theorem dX3_lastBroker_39 : decode cX3_lastBroker 39 = .ok (.ireturn, 1) := by decide +kernel
theorem dX3_brokerAt_0 : decode cX3_brokerAt 0 = .ok (.iload_n 1, 1) := by decide +kernel
theorem dX3_brokerAt_1 : decode cX3_brokerAt 1 = .ok (.ifCond .lt 29, 3) := by decide +kernel
theorem dX3_brokerAt_4 : decode cX3_brokerAt 4 = .ok (.iload_n 1, 1) := by decide +kernel
theorem dX3_brokerAt_5 : decode cX3_brokerAt 5 = .ok (.aload_n 0, 1) := by decide +kernel
theorem dX3_brokerAt_6 : decode cX3_brokerAt 6 = .ok (.getfield 18, 3) := by decide +kernel
theorem dX3_brokerAt_9 : decode cX3_brokerAt 9 = .ok (.if_icmp .ge 21, 3) := by decide +kernel
theorem dX3_brokerAt_12 : decode cX3_brokerAt 12 = .ok (.iload_n 1, 1) := by decide +kernel
theorem dX3_brokerAt_13 : decode cX3_brokerAt 13 = .ok (.aload_n 0, 1) := by decide +kernel
theorem dX3_brokerAt_14 : decode cX3_brokerAt 14 = .ok (.getfield 9, 3) := by decide +kernel
theorem dX3_brokerAt_17 : decode cX3_brokerAt 17 = .ok (.arraylength, 1) := by decide +kernel
theorem dX3_brokerAt_18 : decode cX3_brokerAt 18 = .ok (.if_icmp .ge 12, 3) := by decide +kernel
theorem dX3_brokerAt_21 : decode cX3_brokerAt 21 = .ok (.aload_n 0, 1) := by decide +kernel
theorem dX3_brokerAt_22 : decode cX3_brokerAt 22 = .ok (.getfield 9, 3) := by decide +kernel
theorem dX3_brokerAt_25 : decode cX3_brokerAt 25 = .ok (.iload_n 1, 1) := by decide +kernel
theorem dX3_brokerAt_26 : decode cX3_brokerAt 26 = .ok (.iaload, 1) := by decide +kernel
theorem dX3_brokerAt_27 : decode cX3_brokerAt 27 = .ok (.goto 4, 3) := by decide +kernel
theorem dX3_brokerAt_30 : decode cX3_brokerAt 30 = .ok (.iconst (-1), 1) := by decide +kernel
theorem dX3_brokerAt_31 : decode cX3_brokerAt 31 = .ok (.ireturn, 1) := by decide +kernel
theorem dX3_isOpen_0 : decode cX3_isOpen 0 = .ok (.aload_n 0, 1) := by decide +kernel
theorem dX3_isOpen_1 : decode cX3_isOpen 1 = .ok (.getfield 22, 3) := by decide +kernel
theorem dX3_isOpen_4 : decode cX3_isOpen 4 = .ok (.ifCond .eq 11, 3) := by decide +kernel
theorem dX3_isOpen_7 : decode cX3_isOpen 7 = .ok (.aload_n 0, 1) := by decide +kernel
theorem dX3_isOpen_8 : decode cX3_isOpen 8 = .ok (.getfield 22, 3) := by decide +kernel
theorem dX3_isOpen_11 : decode cX3_isOpen 11 = .ok (.iconst 1, 1) := by decide +kernel
theorem dX3_isOpen_12 : decode cX3_isOpen 12 = .ok (.if_icmp .ne 7, 3) := by decide +kernel
theorem dX3_isOpen_15 : decode cX3_isOpen 15 = .ok (.iconst 1, 1) := by decide +kernel
theorem dX3_isOpen_16 : decode cX3_isOpen 16 = .ok (.goto 4, 3) := by decide +kernel
theorem dX3_isOpen_19 : decode cX3_isOpen 19 = .ok (.iconst 0, 1) := by decide +kernel
theorem dX3_isOpen_20 : decode cX3_isOpen 20 = .ok (.ireturn, 1) := by decide +kernel
theorem dX3_isStillToPass_0 : decode cX3_isStillToPass 0 = .ok (.aload_n 0, 1) := by decide +kernel
theorem dX3_isStillToPass_1 : decode cX3_isStillToPass 1 = .ok (.getfield 25, 3) := by decide +kernel
theorem dX3_isStillToPass_4 : decode cX3_isStillToPass 4 = .ok (.iconst 1, 1) := by decide +kernel
theorem dX3_isStillToPass_5 : decode cX3_isStillToPass 5 = .ok (.iadd, 1) := by decide +kernel
theorem dX3_isStillToPass_6 : decode cX3_isStillToPass 6 = .ok (.istore_n 2, 1) := by decide +kernel
theorem dX3_isStillToPass_7 : decode cX3_isStillToPass 7 = .ok (.iload_n 2, 1) := by decide +kernel
theorem dX3_isStillToPass_8 : decode cX3_isStillToPass 8 = .ok (.aload_n 0, 1) := by decide +kernel
theorem dX3_isStillToPass_9 : decode cX3_isStillToPass 9 = .ok (.getfield 18, 3) := by decide +kernel
theorem dX3_isStillToPass_12 : decode cX3_isStillToPass 12 = .ok (.if_icmp .ge 21, 3) := by decide +kernel
theorem dX3_isStillToPass_15 : decode cX3_isStillToPass 15 = .ok (.aload_n 0, 1) := by decide +kernel
theorem dX3_isStillToPass_16 : decode cX3_isStillToPass 16 = .ok (.getfield 9, 3) := by decide +kernel
theorem dX3_isStillToPass_19 : decode cX3_isStillToPass 19 = .ok (.iload_n 2, 1) := by decide +kernel
theorem dX3_isStillToPass_20 : decode cX3_isStillToPass 20 = .ok (.iaload, 1) := by decide +kernel
theorem dX3_isStillToPass_21 : decode cX3_isStillToPass 21 = .ok (.iload_n 1, 1) := by decide +kernel
theorem dX3_isStillToPass_22 : decode cX3_isStillToPass 22 = .ok (.if_icmp .ne 5, 3) := by decide +kernel
theorem dX3_isStillToPass_25 : decode cX3_isStillToPass 25 = .ok (.iconst 1, 1) := by decide +kernel
theorem dX3_isStillToPass_26 : decode cX3_isStillToPass 26 = .ok (.ireturn, 1) := by decide +kernel
theorem dX3_isStillToPass_27 : decode cX3_isStillToPass 27 = .ok (.iinc 2 1, 3) := by decide +kernel
theorem dX3_isStillToPass_30 : decode cX3_isStillToPass 30 = .ok (.goto (-23), 3) := by decide +kernel
theorem dX3_isStillToPass_33 : decode cX3_isStillToPass 33 = .ok (.iconst 0, 1) := by decide +kernel
theorem dX3_isStillToPass_34 : decode cX3_isStillToPass 34 = .ok (.ireturn, 1) := by decide +kernel
theorem dX3_takeWay_0 : decode cX3_takeWay 0 = .ok (.iconst 0, 1) := by decide +kernel
theorem dX3_takeWay_1 : decode cX3_takeWay 1 = .ok (.istore_n 3, 1) := by decide +kernel
theorem dX3_takeWay_2 : decode cX3_takeWay 2 = .ok (.iconst 0, 1) := by decide +kernel
theorem dX3_takeWay_3 : decode cX3_takeWay 3 = .ok (.istore 4, 2) := by decide +kernel
theorem dX3_takeWay_5 : decode cX3_takeWay 5 = .ok (.iload 4, 2) := by decide +kernel
theorem dX3_takeWay_7 : decode cX3_takeWay 7 = .ok (.aload_n 1, 1) := by decide +kernel
theorem dX3_takeWay_8 : decode cX3_takeWay 8 = .ok (.getfield 28, 3) := by decide +kernel
theorem dX3_takeWay_11 : decode cX3_takeWay 11 = .ok (.if_icmp .ge 83, 3) := by decide +kernel
theorem dX3_takeWay_14 : decode cX3_takeWay 14 = .ok (.iload_n 2, 1) := by decide +kernel
theorem dX3_takeWay_15 : decode cX3_takeWay 15 = .ok (.iload 4, 2) := by decide +kernel
theorem dX3_takeWay_17 : decode cX3_takeWay 17 = .ok (.iadd, 1) := by decide +kernel
theorem dX3_takeWay_18 : decode cX3_takeWay 18 = .ok (.aload_n 0, 1) := by decide +kernel
theorem dX3_takeWay_19 : decode cX3_takeWay 19 = .ok (.getfield 9, 3) := by decide +kernel
theorem dX3_takeWay_22 : decode cX3_takeWay 22 = .ok (.arraylength, 1) := by decide +kernel
theorem dX3_takeWay_23 : decode cX3_takeWay 23 = .ok (.if_icmp .ge 71, 3) := by decide +kernel
theorem dX3_takeWay_26 : decode cX3_takeWay 26 = .ok (.aload_n 0, 1) := by decide +kernel
theorem dX3_takeWay_27 : decode cX3_takeWay 27 = .ok (.getfield 9, 3) := by decide +kernel
theorem dX3_takeWay_30 : decode cX3_takeWay 30 = .ok (.iload_n 2, 1) := by decide +kernel
theorem dX3_takeWay_31 : decode cX3_takeWay 31 = .ok (.iload 4, 2) := by decide +kernel
theorem dX3_takeWay_33 : decode cX3_takeWay 33 = .ok (.iadd, 1) := by decide +kernel
theorem dX3_takeWay_34 : decode cX3_takeWay 34 = .ok (.aload_n 1, 1) := by decide +kernel
theorem dX3_takeWay_35 : decode cX3_takeWay 35 = .ok (.getfield 31, 3) := by decide +kernel
theorem dX3_takeWay_38 : decode cX3_takeWay 38 = .ok (.iload 4, 2) := by decide +kernel
theorem dX3_takeWay_40 : decode cX3_takeWay 40 = .ok (.iaload, 1) := by decide +kernel
theorem dX3_takeWay_41 : decode cX3_takeWay 41 = .ok (.iastore, 1) := by decide +kernel
theorem dX3_takeWay_42 : decode cX3_takeWay 42 = .ok (.aload_n 0, 1) := by decide +kernel
theorem dX3_takeWay_43 : decode cX3_takeWay 43 = .ok (.getfield 15, 3) := by decide +kernel
theorem dX3_takeWay_46 : decode cX3_takeWay 46 = .ok (.iload_n 2, 1) := by decide +kernel
theorem dX3_takeWay_47 : decode cX3_takeWay 47 = .ok (.iload 4, 2) := by decide +kernel
theorem dX3_takeWay_49 : decode cX3_takeWay 49 = .ok (.iadd, 1) := by decide +kernel
theorem dX3_takeWay_50 : decode cX3_takeWay 50 = .ok (.iload 4, 2) := by decide +kernel
theorem dX3_takeWay_52 : decode cX3_takeWay 52 = .ok (.iconst 1, 1) := by decide +kernel
theorem dX3_takeWay_53 : decode cX3_takeWay 53 = .ok (.iadd, 1) := by decide +kernel
theorem dX3_takeWay_54 : decode cX3_takeWay 54 = .ok (.aload_n 1, 1) := by decide +kernel
theorem dX3_takeWay_55 : decode cX3_takeWay 55 = .ok (.getfield 28, 3) := by decide +kernel
theorem dX3_takeWay_58 : decode cX3_takeWay 58 = .ok (.if_icmp .ge 25, 3) := by decide +kernel
theorem dX3_takeWay_61 : decode cX3_takeWay 61 = .ok (.aload_n 0, 1) := by decide +kernel
theorem dX3_takeWay_62 : decode cX3_takeWay 62 = .ok (.getfield 34, 3) := by decide +kernel
theorem dX3_takeWay_65 : decode cX3_takeWay 65 = .ok (.aload_n 1, 1) := by decide +kernel
theorem dX3_takeWay_66 : decode cX3_takeWay 66 = .ok (.getfield 37, 3) := by decide +kernel
theorem dX3_takeWay_69 : decode cX3_takeWay 69 = .ok (.aload_n 1, 1) := by decide +kernel
theorem dX3_takeWay_70 : decode cX3_takeWay 70 = .ok (.getfield 31, 3) := by decide +kernel
theorem dX3_takeWay_73 : decode cX3_takeWay 73 = .ok (.iload 4, 2) := by decide +kernel
theorem dX3_takeWay_75 : decode cX3_takeWay 75 = .ok (.iconst 1, 1) := by decide +kernel
theorem dX3_takeWay_76 : decode cX3_takeWay 76 = .ok (.iadd, 1) := by decide +kernel
theorem dX3_takeWay_77 : decode cX3_takeWay 77 = .ok (.iaload, 1) := by decide +kernel
theorem dX3_takeWay_78 : decode cX3_takeWay 78 = .ok (.iaload, 1) := by decide +kernel
theorem dX3_takeWay_79 : decode cX3_takeWay 79 = .ok (.iadd, 1) := by decide +kernel
theorem dX3_takeWay_80 : decode cX3_takeWay 80 = .ok (.goto 4, 3) := by decide +kernel
theorem dX3_takeWay_83 : decode cX3_takeWay 83 = .ok (.iconst 0, 1) := by decide +kernel
theorem dX3_takeWay_84 : decode cX3_takeWay 84 = .ok (.iastore, 1) := by decide +kernel
theorem dX3_takeWay_85 : decode cX3_takeWay 85 = .ok (.iinc 3 1, 3) := by decide +kernel
theorem dX3_takeWay_88 : decode cX3_takeWay 88 = .ok (.iinc 4 1, 3) := by decide +kernel
theorem dX3_takeWay_91 : decode cX3_takeWay 91 = .ok (.goto (-86), 3) := by decide +kernel
theorem dX3_takeWay_94 : decode cX3_takeWay 94 = .ok (.aload_n 0, 1) := by decide +kernel
theorem dX3_takeWay_95 : decode cX3_takeWay 95 = .ok (.iload_n 2, 1) := by decide +kernel
theorem dX3_takeWay_96 : decode cX3_takeWay 96 = .ok (.iload_n 3, 1) := by decide +kernel
theorem dX3_takeWay_97 : decode cX3_takeWay 97 = .ok (.iadd, 1) := by decide +kernel
theorem dX3_takeWay_98 : decode cX3_takeWay 98 = .ok (.putfield 18, 3) := by decide +kernel
theorem dX3_takeWay_101 : decode cX3_takeWay 101 = .ok (.return_, 1) := by decide +kernel
theorem dX4_init_0 : decode cX4_init 0 = .ok (.aload_n 0, 1) := by decide +kernel
theorem dX4_init_1 : decode cX4_init 1 = .ok (.invokespecial 3, 3) := by decide +kernel
theorem dX4_init_4 : decode cX4_init 4 = .ok (.aload_n 0, 1) := by decide +kernel
theorem dX4_init_5 : decode cX4_init 5 = .ok (.bipush 12, 2) := by decide +kernel
theorem dX4_init_7 : decode cX4_init 7 = .ok (.newarray .boolean, 2) := by decide +kernel
theorem dX4_init_9 : decode cX4_init 9 = .ok (.putfield 9, 3) := by decide +kernel
theorem dX4_init_12 : decode cX4_init 12 = .ok (.aload_n 0, 1) := by decide +kernel
theorem dX4_init_13 : decode cX4_init 13 = .ok (.bipush 12, 2) := by decide +kernel
theorem dX4_init_15 : decode cX4_init 15 = .ok (.newarray .boolean, 2) := by decide +kernel
theorem dX4_init_17 : decode cX4_init 17 = .ok (.putfield 15, 3) := by decide +kernel
theorem dX4_init_20 : decode cX4_init 20 = .ok (.aload_n 0, 1) := by decide +kernel
theorem dX4_init_21 : decode cX4_init 21 = .ok (.bipush 12, 2) := by decide +kernel
theorem dX4_init_23 : decode cX4_init 23 = .ok (.newarray .boolean, 2) := by decide +kernel
theorem dX4_init_25 : decode cX4_init 25 = .ok (.putfield 18, 3) := by decide +kernel
theorem dX4_init_28 : decode cX4_init 28 = .ok (.aload_n 0, 1) := by decide +kernel
theorem dX4_init_29 : decode cX4_init 29 = .ok (.bipush 12, 2) := by decide +kernel
theorem dX4_init_31 : decode cX4_init 31 = .ok (.newarray .int, 2) := by decide +kernel
theorem dX4_init_33 : decode cX4_init 33 = .ok (.putfield 21, 3) := by decide +kernel
theorem dX4_init_36 : decode cX4_init 36 = .ok (.aload_n 0, 1) := by decide +kernel
theorem dX4_init_37 : decode cX4_init 37 = .ok (.bipush 12, 2) := by decide +kernel
theorem dX4_init_39 : decode cX4_init 39 = .ok (.newarray .int, 2) := by decide +kernel
theorem dX4_init_41 : decode cX4_init 41 = .ok (.putfield 25, 3) := by decide +kernel
theorem dX4_init_44 : decode cX4_init 44 = .ok (.aload_n 0, 1) := by decide +kernel
theorem dX4_init_45 : decode cX4_init 45 = .ok (.bipush 12, 2) := by decide +kernel
theorem dX4_init_47 : decode cX4_init 47 = .ok (.newarray .int, 2) := by decide +kernel
theorem dX4_init_49 : decode cX4_init 49 = .ok (.putfield 28, 3) := by decide +kernel
theorem dX4_init_52 : decode cX4_init 52 = .ok (.aload_n 0, 1) := by decide +kernel
theorem dX4_init_53 : decode cX4_init 53 = .ok (.aload_n 1, 1) := by decide +kernel
theorem dX4_init_54 : decode cX4_init 54 = .ok (.putfield 31, 3) := by decide +kernel
theorem dX4_init_57 : decode cX4_init 57 = .ok (.aload_n 0, 1) := by decide +kernel
theorem dX4_init_58 : decode cX4_init 58 = .ok (.aload_n 2, 1) := by decide +kernel
theorem dX4_init_59 : decode cX4_init 59 = .ok (.putfield 35, 3) := by decide +kernel
theorem dX4_init_62 : decode cX4_init 62 = .ok (.return_, 1) := by decide +kernel
theorem dX4_start_0 : decode cX4_start 0 = .ok (.aload_n 0, 1) := by decide +kernel
theorem dX4_start_1 : decode cX4_start 1 = .ok (.iload_n 2, 1) := by decide +kernel
theorem dX4_start_2 : decode cX4_start 2 = .ok (.putfield 39, 3) := by decide +kernel
theorem dX4_start_5 : decode cX4_start 5 = .ok (.aload_n 0, 1) := by decide +kernel
theorem dX4_start_6 : decode cX4_start 6 = .ok (.iload_n 3, 1) := by decide +kernel
theorem dX4_start_7 : decode cX4_start 7 = .ok (.putfield 43, 3) := by decide +kernel
theorem dX4_start_10 : decode cX4_start 10 = .ok (.iconst 0, 1) := by decide +kernel
theorem dX4_start_11 : decode cX4_start 11 = .ok (.istore 4, 2) := by decide +kernel
theorem dX4_start_13 : decode cX4_start 13 = .ok (.iload 4, 2) := by decide +kernel
theorem dX4_start_15 : decode cX4_start 15 = .ok (.bipush 12, 2) := by decide +kernel
theorem dX4_start_17 : decode cX4_start 17 = .ok (.if_icmp .ge 40, 3) := by decide +kernel
theorem dX4_start_20 : decode cX4_start 20 = .ok (.aload_n 0, 1) := by decide +kernel
theorem dX4_start_21 : decode cX4_start 21 = .ok (.getfield 9, 3) := by decide +kernel
theorem dX4_start_24 : decode cX4_start 24 = .ok (.iload 4, 2) := by decide +kernel
theorem dX4_start_26 : decode cX4_start 26 = .ok (.iload 4, 2) := by decide +kernel
theorem dX4_start_28 : decode cX4_start 28 = .ok (.iload_n 1, 1) := by decide +kernel
theorem dX4_start_29 : decode cX4_start 29 = .ok (.if_icmp .ge 20, 3) := by decide +kernel
theorem dX4_start_32 : decode cX4_start 32 = .ok (.aload_n 0, 1) := by decide +kernel
theorem dX4_start_33 : decode cX4_start 33 = .ok (.getfield 31, 3) := by decide +kernel
theorem dX4_start_36 : decode cX4_start 36 = .ok (.iload 4, 2) := by decide +kernel
theorem dX4_start_38 : decode cX4_start 38 = .ok (.aaload, 1) := by decide +kernel
theorem dX4_start_39 : decode cX4_start 39 = .ok (.invokevirtual 47, 3) := by decide +kernel
theorem dX4_start_42 : decode cX4_start 42 = .ok (.ifCond .eq 7, 3) := by decide +kernel
theorem dX4_start_45 : decode cX4_start 45 = .ok (.iconst 1, 1) := by decide +kernel
theorem dX4_start_46 : decode cX4_start 46 = .ok (.goto 4, 3) := by decide +kernel
theorem dX4_start_49 : decode cX4_start 49 = .ok (.iconst 0, 1) := by decide +kernel
theorem dX4_start_50 : decode cX4_start 50 = .ok (.bastore, 1) := by decide +kernel
theorem dX4_start_51 : decode cX4_start 51 = .ok (.iinc 4 1, 3) := by decide +kernel
theorem dX4_start_54 : decode cX4_start 54 = .ok (.goto (-41), 3) := by decide +kernel
theorem dX4_start_57 : decode cX4_start 57 = .ok (.return_, 1) := by decide +kernel
theorem dX4_leaveOut_0 : decode cX4_leaveOut 0 = .ok (.aload_n 0, 1) := by decide +kernel
theorem dX4_leaveOut_1 : decode cX4_leaveOut 1 = .ok (.getfield 9, 3) := by decide +kernel
theorem dX4_leaveOut_4 : decode cX4_leaveOut 4 = .ok (.iload_n 1, 1) := by decide +kernel
theorem dX4_leaveOut_5 : decode cX4_leaveOut 5 = .ok (.iconst 0, 1) := by decide +kernel
theorem dX4_leaveOut_6 : decode cX4_leaveOut 6 = .ok (.bastore, 1) := by decide +kernel
theorem dX4_leaveOut_7 : decode cX4_leaveOut 7 = .ok (.return_, 1) := by decide +kernel
theorem dX4_find_0 : decode cX4_find 0 = .ok (.aload_n 0, 1) := by decide +kernel
theorem dX4_find_1 : decode cX4_find 1 = .ok (.iconst 0, 1) := by decide +kernel
theorem dX4_find_2 : decode cX4_find 2 = .ok (.putfield 53, 3) := by decide +kernel
theorem dX4_find_5 : decode cX4_find 5 = .ok (.aload_n 0, 1) := by decide +kernel
theorem dX4_find_6 : decode cX4_find 6 = .ok (.getfield 9, 3) := by decide +kernel
theorem dX4_find_9 : decode cX4_find 9 = .ok (.iload_n 1, 1) := by decide +kernel
theorem dX4_find_10 : decode cX4_find 10 = .ok (.baload, 1) := by decide +kernel
theorem dX4_find_11 : decode cX4_find 11 = .ok (.ifCond .eq 12, 3) := by decide +kernel
theorem dX4_find_14 : decode cX4_find 14 = .ok (.aload_n 0, 1) := by decide +kernel
theorem dX4_find_15 : decode cX4_find 15 = .ok (.getfield 9, 3) := by decide +kernel
theorem dX4_find_18 : decode cX4_find 18 = .ok (.iload_n 2, 1) := by decide +kernel
theorem dX4_find_19 : decode cX4_find 19 = .ok (.baload, 1) := by decide +kernel
theorem dX4_find_20 : decode cX4_find 20 = .ok (.ifCond .ne 5, 3) := by decide +kernel
theorem dX4_find_23 : decode cX4_find 23 = .ok (.iconst 0, 1) := by decide +kernel
theorem dX4_find_24 : decode cX4_find 24 = .ok (.ireturn, 1) := by decide +kernel
theorem dX4_find_25 : decode cX4_find 25 = .ok (.aload_n 0, 1) := by decide +kernel
theorem dX4_find_26 : decode cX4_find 26 = .ok (.iload_n 2, 1) := by decide +kernel
theorem dX4_find_27 : decode cX4_find 27 = .ok (.invokevirtual 56, 3) := by decide +kernel
theorem dX4_find_30 : decode cX4_find 30 = .ok (.iconst 0, 1) := by decide +kernel
theorem dX4_find_31 : decode cX4_find 31 = .ok (.istore_n 3, 1) := by decide +kernel
theorem dX4_find_32 : decode cX4_find 32 = .ok (.iload_n 3, 1) := by decide +kernel
theorem dX4_find_33 : decode cX4_find 33 = .ok (.bipush 12, 2) := by decide +kernel
theorem dX4_find_35 : decode cX4_find 35 = .ok (.if_icmp .ge 13, 3) := by decide +kernel
theorem dX4_find_38 : decode cX4_find 38 = .ok (.aload_n 0, 1) := by decide +kernel
theorem dX4_find_39 : decode cX4_find 39 = .ok (.invokevirtual 60, 3) := by decide +kernel
theorem dX4_find_42 : decode cX4_find 42 = .ok (.iinc 3 1, 3) := by decide +kernel
theorem dX4_find_45 : decode cX4_find 45 = .ok (.goto (-13), 3) := by decide +kernel
theorem dX4_find_48 : decode cX4_find 48 = .ok (.aload_n 0, 1) := by decide +kernel
theorem dX4_find_49 : decode cX4_find 49 = .ok (.getfield 15, 3) := by decide +kernel
theorem dX4_find_52 : decode cX4_find 52 = .ok (.iload_n 1, 1) := by decide +kernel
theorem dX4_find_53 : decode cX4_find 53 = .ok (.baload, 1) := by decide +kernel
theorem dX4_find_54 : decode cX4_find 54 = .ok (.ifCond .ne 5, 3) := by decide +kernel
theorem dX4_find_57 : decode cX4_find 57 = .ok (.iconst 0, 1) := by decide +kernel
theorem dX4_find_58 : decode cX4_find 58 = .ok (.ireturn, 1) := by decide +kernel
theorem dX4_find_59 : decode cX4_find 59 = .ok (.aload_n 0, 1) := by decide +kernel
theorem dX4_find_60 : decode cX4_find 60 = .ok (.iload_n 1, 1) := by decide +kernel
theorem dX4_find_61 : decode cX4_find 61 = .ok (.iload_n 2, 1) := by decide +kernel
theorem dX4_find_62 : decode cX4_find 62 = .ok (.invokevirtual 63, 3) := by decide +kernel
theorem dX4_find_65 : decode cX4_find 65 = .ok (.iconst 1, 1) := by decide +kernel
theorem dX4_find_66 : decode cX4_find 66 = .ok (.ireturn, 1) := by decide +kernel
theorem dX4_allFees_0 : decode cX4_allFees 0 = .ok (.aload_n 0, 1) := by decide +kernel
theorem dX4_allFees_1 : decode cX4_allFees 1 = .ok (.getfield 53, 3) := by decide +kernel
theorem dX4_allFees_4 : decode cX4_allFees 4 = .ok (.ifCond .le 17, 3) := by decide +kernel
theorem dX4_allFees_7 : decode cX4_allFees 7 = .ok (.aload_n 0, 1) := by decide +kernel
theorem dX4_allFees_8 : decode cX4_allFees 8 = .ok (.getfield 21, 3) := by decide +kernel
theorem dX4_allFees_11 : decode cX4_allFees 11 = .ok (.aload_n 0, 1) := by decide +kernel
theorem dX4_allFees_12 : decode cX4_allFees 12 = .ok (.getfield 28, 3) := by decide +kernel
theorem dX4_allFees_15 : decode cX4_allFees 15 = .ok (.iconst 0, 1) := by decide +kernel
theorem dX4_allFees_16 : decode cX4_allFees 16 = .ok (.iaload, 1) := by decide +kernel
theorem dX4_allFees_17 : decode cX4_allFees 17 = .ok (.iaload, 1) := by decide +kernel
theorem dX4_allFees_18 : decode cX4_allFees 18 = .ok (.goto 4, 3) := by decide +kernel
theorem dX4_allFees_21 : decode cX4_allFees 21 = .ok (.iconst 0, 1) := by decide +kernel
theorem dX4_allFees_22 : decode cX4_allFees 22 = .ok (.ireturn, 1) := by decide +kernel
theorem dX4_feesBehindFirst_0 : decode cX4_feesBehindFirst 0 = .ok (.aload_n 0, 1) := by decide +kernel
theorem dX4_feesBehindFirst_1 : decode cX4_feesBehindFirst 1 = .ok (.getfield 53, 3) := by decide +kernel
theorem dX4_feesBehindFirst_4 : decode cX4_feesBehindFirst 4 = .ok (.iconst 1, 1) := by decide +kernel
theorem dX4_feesBehindFirst_5 : decode cX4_feesBehindFirst 5 = .ok (.if_icmp .le 17, 3) := by decide +kernel
theorem dX4_feesBehindFirst_8 : decode cX4_feesBehindFirst 8 = .ok (.aload_n 0, 1) := by decide +kernel
theorem dX4_feesBehindFirst_9 : decode cX4_feesBehindFirst 9 = .ok (.getfield 21, 3) := by decide +kernel
theorem dX4_feesBehindFirst_12 : decode cX4_feesBehindFirst 12 = .ok (.aload_n 0, 1) := by decide +kernel
theorem dX4_feesBehindFirst_13 : decode cX4_feesBehindFirst 13 = .ok (.getfield 28, 3) := by decide +kernel
theorem dX4_feesBehindFirst_16 : decode cX4_feesBehindFirst 16 = .ok (.iconst 1, 1) := by decide +kernel
theorem dX4_feesBehindFirst_17 : decode cX4_feesBehindFirst 17 = .ok (.iaload, 1) := by decide +kernel
theorem dX4_feesBehindFirst_18 : decode cX4_feesBehindFirst 18 = .ok (.iaload, 1) := by decide +kernel
theorem dX4_feesBehindFirst_19 : decode cX4_feesBehindFirst 19 = .ok (.goto 4, 3) := by decide +kernel
theorem dX4_feesBehindFirst_22 : decode cX4_feesBehindFirst 22 = .ok (.iconst 0, 1) := by decide +kernel
theorem dX4_feesBehindFirst_23 : decode cX4_feesBehindFirst 23 = .ok (.ireturn, 1) := by decide +kernel
theorem dX4_feeOf_0 : decode cX4_feeOf 0 = .ok (.aload_n 0, 1) := by decide +kernel
theorem dX4_feeOf_1 : decode cX4_feeOf 1 = .ok (.getfield 39, 3) := by decide +kernel
theorem dX4_feeOf_4 : decode cX4_feeOf 4 = .ok (.aload_n 0, 1) := by decide +kernel
theorem dX4_feeOf_5 : decode cX4_feeOf 5 = .ok (.getfield 31, 3) := by decide +kernel
theorem dX4_feeOf_8 : decode cX4_feeOf 8 = .ok (.iload_n 1, 1) := by decide +kernel
theorem dX4_feeOf_9 : decode cX4_feeOf 9 = .ok (.aaload, 1) := by decide +kernel
theorem dX4_feeOf_10 : decode cX4_feeOf 10 = .ok (.getfield 67, 3) := by decide +kernel
theorem dX4_feeOf_13 : decode cX4_feeOf 13 = .ok (.imul, 1) := by decide +kernel
theorem dX4_feeOf_14 : decode cX4_feeOf 14 = .ok (.sipush 1000, 3) := by decide +kernel
theorem dX4_feeOf_17 : decode cX4_feeOf 17 = .ok (.idiv, 1) := by decide +kernel
theorem dX4_feeOf_18 : decode cX4_feeOf 18 = .ok (.ireturn, 1) := by decide +kernel
theorem dX4_canOwe_0 : decode cX4_canOwe 0 = .ok (.aload_n 0, 1) := by decide +kernel
theorem dX4_canOwe_1 : decode cX4_canOwe 1 = .ok (.getfield 35, 3) := by decide +kernel
theorem dX4_canOwe_4 : decode cX4_canOwe 4 = .ok (.getfield 70, 3) := by decide +kernel
theorem dX4_canOwe_7 : decode cX4_canOwe 7 = .ok (.iload_n 1, 1) := by decide +kernel
theorem dX4_canOwe_8 : decode cX4_canOwe 8 = .ok (.aaload, 1) := by decide +kernel
theorem dX4_canOwe_9 : decode cX4_canOwe 9 = .ok (.iload_n 2, 1) := by decide +kernel
theorem dX4_canOwe_10 : decode cX4_canOwe 10 = .ok (.laload, 1) := by decide +kernel
theorem dX4_canOwe_11 : decode cX4_canOwe 11 = .ok (.aload_n 0, 1) := by decide +kernel
theorem dX4_canOwe_12 : decode cX4_canOwe 12 = .ok (.getfield 39, 3) := by decide +kernel
theorem dX4_canOwe_15 : decode cX4_canOwe 15 = .ok (.i2l, 1) := by decide +kernel
theorem dX4_canOwe_16 : decode cX4_canOwe 16 = .ok (.ladd, 1) := by decide +kernel
theorem dX4_canOwe_17 : decode cX4_canOwe 17 = .ok (.aload_n 0, 1) := by decide +kernel
theorem dX4_canOwe_18 : decode cX4_canOwe 18 = .ok (.getfield 21, 3) := by decide +kernel
theorem dX4_canOwe_21 : decode cX4_canOwe 21 = .ok (.iload_n 2, 1) := by decide +kernel
theorem dX4_canOwe_22 : decode cX4_canOwe 22 = .ok (.iaload, 1) := by decide +kernel
theorem dX4_canOwe_23 : decode cX4_canOwe 23 = .ok (.i2l, 1) := by decide +kernel
theorem dX4_canOwe_24 : decode cX4_canOwe 24 = .ok (.ladd, 1) := by decide +kernel
theorem dX4_canOwe_25 : decode cX4_canOwe 25 = .ok (.lstore_n 3, 1) := by decide +kernel
theorem dX4_canOwe_26 : decode cX4_canOwe 26 = .ok (.lload_n 3, 1) := by decide +kernel
theorem dX4_canOwe_27 : decode cX4_canOwe 27 = .ok (.aload_n 0, 1) := by decide +kernel
theorem dX4_canOwe_28 : decode cX4_canOwe 28 = .ok (.getfield 31, 3) := by decide +kernel
theorem dX4_canOwe_31 : decode cX4_canOwe 31 = .ok (.iload_n 2, 1) := by decide +kernel
theorem dX4_canOwe_32 : decode cX4_canOwe 32 = .ok (.aaload, 1) := by decide +kernel
theorem dX4_canOwe_33 : decode cX4_canOwe 33 = .ok (.iload_n 1, 1) := by decide +kernel
theorem dX4_canOwe_34 : decode cX4_canOwe 34 = .ok (.aload_n 0, 1) := by decide +kernel
theorem dX4_canOwe_35 : decode cX4_canOwe 35 = .ok (.getfield 43, 3) := by decide +kernel
theorem dX4_canOwe_38 : decode cX4_canOwe 38 = .ok (.invokevirtual 76, 3) := by decide +kernel
theorem dX4_canOwe_41 : decode cX4_canOwe 41 = .ok (.i2l, 1) := by decide +kernel
theorem dX4_canOwe_42 : decode cX4_canOwe 42 = .ok (.lcmp, 1) := by decide +kernel
theorem dX4_canOwe_43 : decode cX4_canOwe 43 = .ok (.ifCond .gt 7, 3) := by decide +kernel
theorem dX4_canOwe_46 : decode cX4_canOwe 46 = .ok (.iconst 1, 1) := by decide +kernel
theorem dX4_canOwe_47 : decode cX4_canOwe 47 = .ok (.goto 4, 3) := by decide +kernel
theorem dX4_canOwe_50 : decode cX4_canOwe 50 = .ok (.iconst 0, 1) := by decide +kernel
theorem dX4_canOwe_51 : decode cX4_canOwe 51 = .ok (.ireturn, 1) := by decide +kernel
theorem dX4_startAt_0 : decode cX4_startAt 0 = .ok (.iconst 0, 1) := by decide +kernel
theorem dX4_startAt_1 : decode cX4_startAt 1 = .ok (.istore_n 2, 1) := by decide +kernel
theorem dX4_startAt_2 : decode cX4_startAt 2 = .ok (.iload_n 2, 1) := by decide +kernel
theorem dX4_startAt_3 : decode cX4_startAt 3 = .ok (.bipush 12, 2) := by decide +kernel
theorem dX4_startAt_5 : decode cX4_startAt 5 = .ok (.if_icmp .ge 23, 3) := by decide +kernel
theorem dX4_startAt_8 : decode cX4_startAt 8 = .ok (.aload_n 0, 1) := by decide +kernel
theorem dX4_startAt_9 : decode cX4_startAt 9 = .ok (.getfield 15, 3) := by decide +kernel
theorem dX4_startAt_12 : decode cX4_startAt 12 = .ok (.iload_n 2, 1) := by decide +kernel
theorem dX4_startAt_13 : decode cX4_startAt 13 = .ok (.iconst 0, 1) := by decide +kernel
theorem dX4_startAt_14 : decode cX4_startAt 14 = .ok (.bastore, 1) := by decide +kernel
theorem dX4_startAt_15 : decode cX4_startAt 15 = .ok (.aload_n 0, 1) := by decide +kernel
theorem dX4_startAt_16 : decode cX4_startAt 16 = .ok (.getfield 18, 3) := by decide +kernel
theorem dX4_startAt_19 : decode cX4_startAt 19 = .ok (.iload_n 2, 1) := by decide +kernel
theorem dX4_startAt_20 : decode cX4_startAt 20 = .ok (.iconst 0, 1) := by decide +kernel
theorem dX4_startAt_21 : decode cX4_startAt 21 = .ok (.bastore, 1) := by decide +kernel
theorem dX4_startAt_22 : decode cX4_startAt 22 = .ok (.iinc 2 1, 3) := by decide +kernel
theorem dX4_startAt_25 : decode cX4_startAt 25 = .ok (.goto (-23), 3) := by decide +kernel
theorem dX4_startAt_28 : decode cX4_startAt 28 = .ok (.aload_n 0, 1) := by decide +kernel
theorem dX4_startAt_29 : decode cX4_startAt 29 = .ok (.getfield 15, 3) := by decide +kernel
theorem dX4_startAt_32 : decode cX4_startAt 32 = .ok (.iload_n 1, 1) := by decide +kernel
theorem dX4_startAt_33 : decode cX4_startAt 33 = .ok (.iconst 1, 1) := by decide +kernel
theorem dX4_startAt_34 : decode cX4_startAt 34 = .ok (.bastore, 1) := by decide +kernel
theorem dX4_startAt_35 : decode cX4_startAt 35 = .ok (.aload_n 0, 1) := by decide +kernel
theorem dX4_startAt_36 : decode cX4_startAt 36 = .ok (.getfield 21, 3) := by decide +kernel
theorem dX4_startAt_39 : decode cX4_startAt 39 = .ok (.iload_n 1, 1) := by decide +kernel
theorem dX4_startAt_40 : decode cX4_startAt 40 = .ok (.aload_n 0, 1) := by decide +kernel
theorem dX4_startAt_41 : decode cX4_startAt 41 = .ok (.iload_n 1, 1) := by decide +kernel
theorem dX4_startAt_42 : decode cX4_startAt 42 = .ok (.invokevirtual 80, 3) := by decide +kernel
theorem dX4_startAt_45 : decode cX4_startAt 45 = .ok (.iastore, 1) := by decide +kernel
theorem dX4_startAt_46 : decode cX4_startAt 46 = .ok (.aload_n 0, 1) := by decide +kernel
theorem dX4_startAt_47 : decode cX4_startAt 47 = .ok (.getfield 25, 3) := by decide +kernel
theorem dX4_startAt_50 : decode cX4_startAt 50 = .ok (.iload_n 1, 1) := by decide +kernel
theorem dX4_startAt_51 : decode cX4_startAt 51 = .ok (.iconst 1, 1) := by decide +kernel
theorem dX4_startAt_52 : decode cX4_startAt 52 = .ok (.iastore, 1) := by decide +kernel
theorem dX4_startAt_53 : decode cX4_startAt 53 = .ok (.return_, 1) := by decide +kernel
theorem dX4_bestUnsettled_0 : decode cX4_bestUnsettled 0 = .ok (.iconst (-1), 1) := by decide +kernel
theorem dX4_bestUnsettled_1 : decode cX4_bestUnsettled 1 = .ok (.istore_n 1, 1) := by decide +kernel
theorem dX4_bestUnsettled_2 : decode cX4_bestUnsettled 2 = .ok (.iconst 0, 1) := by decide +kernel
theorem dX4_bestUnsettled_3 : decode cX4_bestUnsettled 3 = .ok (.istore_n 2, 1) := by decide +kernel
theorem dX4_bestUnsettled_4 : decode cX4_bestUnsettled 4 = .ok (.iload_n 2, 1) := by decide +kernel
theorem dX4_bestUnsettled_5 : decode cX4_bestUnsettled 5 = .ok (.bipush 12, 2) := by decide +kernel
theorem dX4_bestUnsettled_7 : decode cX4_bestUnsettled 7 = .ok (.if_icmp .ge 54, 3) := by decide +kernel
theorem dX4_bestUnsettled_10 : decode cX4_bestUnsettled 10 = .ok (.aload_n 0, 1) := by decide +kernel
theorem dX4_bestUnsettled_11 : decode cX4_bestUnsettled 11 = .ok (.getfield 15, 3) := by decide +kernel
theorem dX4_bestUnsettled_14 : decode cX4_bestUnsettled 14 = .ok (.iload_n 2, 1) := by decide +kernel
theorem dX4_bestUnsettled_15 : decode cX4_bestUnsettled 15 = .ok (.baload, 1) := by decide +kernel
theorem dX4_bestUnsettled_16 : decode cX4_bestUnsettled 16 = .ok (.ifCond .eq 39, 3) := by decide +kernel
theorem dX4_bestUnsettled_19 : decode cX4_bestUnsettled 19 = .ok (.aload_n 0, 1) := by decide +kernel
theorem dX4_bestUnsettled_20 : decode cX4_bestUnsettled 20 = .ok (.getfield 18, 3) := by decide +kernel
theorem dX4_bestUnsettled_23 : decode cX4_bestUnsettled 23 = .ok (.iload_n 2, 1) := by decide +kernel
theorem dX4_bestUnsettled_24 : decode cX4_bestUnsettled 24 = .ok (.baload, 1) := by decide +kernel
theorem dX4_bestUnsettled_25 : decode cX4_bestUnsettled 25 = .ok (.ifCond .ne 30, 3) := by decide +kernel
theorem dX4_bestUnsettled_28 : decode cX4_bestUnsettled 28 = .ok (.iload_n 1, 1) := by decide +kernel
theorem dX4_bestUnsettled_29 : decode cX4_bestUnsettled 29 = .ok (.iconst (-1), 1) := by decide +kernel
theorem dX4_bestUnsettled_30 : decode cX4_bestUnsettled 30 = .ok (.if_icmp .eq 23, 3) := by decide +kernel
theorem dX4_bestUnsettled_33 : decode cX4_bestUnsettled 33 = .ok (.aload_n 0, 1) := by decide +kernel
theorem dX4_bestUnsettled_34 : decode cX4_bestUnsettled 34 = .ok (.aload_n 0, 1) := by decide +kernel
theorem dX4_bestUnsettled_35 : decode cX4_bestUnsettled 35 = .ok (.getfield 21, 3) := by decide +kernel
theorem dX4_bestUnsettled_38 : decode cX4_bestUnsettled 38 = .ok (.iload_n 2, 1) := by decide +kernel
theorem dX4_bestUnsettled_39 : decode cX4_bestUnsettled 39 = .ok (.iaload, 1) := by decide +kernel
theorem dX4_bestUnsettled_40 : decode cX4_bestUnsettled 40 = .ok (.aload_n 0, 1) := by decide +kernel
theorem dX4_bestUnsettled_41 : decode cX4_bestUnsettled 41 = .ok (.getfield 25, 3) := by decide +kernel
theorem dX4_bestUnsettled_44 : decode cX4_bestUnsettled 44 = .ok (.iload_n 2, 1) := by decide +kernel
theorem dX4_bestUnsettled_45 : decode cX4_bestUnsettled 45 = .ok (.iaload, 1) := by decide +kernel
theorem dX4_bestUnsettled_46 : decode cX4_bestUnsettled 46 = .ok (.iload_n 1, 1) := by decide +kernel
theorem dX4_bestUnsettled_47 : decode cX4_bestUnsettled 47 = .ok (.invokevirtual 84, 3) := by decide +kernel
theorem dX4_bestUnsettled_50 : decode cX4_bestUnsettled 50 = .ok (.ifCond .eq 5, 3) := by decide +kernel
theorem dX4_bestUnsettled_53 : decode cX4_bestUnsettled 53 = .ok (.iload_n 2, 1) := by decide +kernel
theorem dX4_bestUnsettled_54 : decode cX4_bestUnsettled 54 = .ok (.istore_n 1, 1) := by decide +kernel
theorem dX4_bestUnsettled_55 : decode cX4_bestUnsettled 55 = .ok (.iinc 2 1, 3) := by decide +kernel
theorem dX4_bestUnsettled_58 : decode cX4_bestUnsettled 58 = .ok (.goto (-54), 3) := by decide +kernel
theorem dX4_bestUnsettled_61 : decode cX4_bestUnsettled 61 = .ok (.iload_n 1, 1) := by decide +kernel
theorem dX4_bestUnsettled_62 : decode cX4_bestUnsettled 62 = .ok (.ireturn, 1) := by decide +kernel
theorem dX4_isBetter_0 : decode cX4_isBetter 0 = .ok (.iload_n 1, 1) := by decide +kernel
theorem dX4_isBetter_1 : decode cX4_isBetter 1 = .ok (.aload_n 0, 1) := by decide +kernel
theorem dX4_isBetter_2 : decode cX4_isBetter 2 = .ok (.getfield 21, 3) := by decide +kernel
theorem dX4_isBetter_5 : decode cX4_isBetter 5 = .ok (.iload_n 3, 1) := by decide +kernel
theorem dX4_isBetter_6 : decode cX4_isBetter 6 = .ok (.iaload, 1) := by decide +kernel
theorem dX4_isBetter_7 : decode cX4_isBetter 7 = .ok (.if_icmp .lt 23, 3) := by decide +kernel
theorem dX4_isBetter_10 : decode cX4_isBetter 10 = .ok (.iload_n 1, 1) := by decide +kernel
theorem dX4_isBetter_11 : decode cX4_isBetter 11 = .ok (.aload_n 0, 1) := by decide +kernel
theorem dX4_isBetter_12 : decode cX4_isBetter 12 = .ok (.getfield 21, 3) := by decide +kernel
theorem dX4_isBetter_15 : decode cX4_isBetter 15 = .ok (.iload_n 3, 1) := by decide +kernel
theorem dX4_isBetter_16 : decode cX4_isBetter 16 = .ok (.iaload, 1) := by decide +kernel
theorem dX4_isBetter_17 : decode cX4_isBetter 17 = .ok (.if_icmp .ne 17, 3) := by decide +kernel
theorem dX4_isBetter_20 : decode cX4_isBetter 20 = .ok (.iload_n 2, 1) := by decide +kernel
theorem dX4_isBetter_21 : decode cX4_isBetter 21 = .ok (.aload_n 0, 1) := by decide +kernel
theorem dX4_isBetter_22 : decode cX4_isBetter 22 = .ok (.getfield 25, 3) := by decide +kernel
theorem dX4_isBetter_25 : decode cX4_isBetter 25 = .ok (.iload_n 3, 1) := by decide +kernel
theorem dX4_isBetter_26 : decode cX4_isBetter 26 = .ok (.iaload, 1) := by decide +kernel
theorem dX4_isBetter_27 : decode cX4_isBetter 27 = .ok (.if_icmp .ge 7, 3) := by decide +kernel
theorem dX4_isBetter_30 : decode cX4_isBetter 30 = .ok (.iconst 1, 1) := by decide +kernel
theorem dX4_isBetter_31 : decode cX4_isBetter 31 = .ok (.goto 4, 3) := by decide +kernel
theorem dX4_isBetter_34 : decode cX4_isBetter 34 = .ok (.iconst 0, 1) := by decide +kernel
theorem dX4_isBetter_35 : decode cX4_isBetter 35 = .ok (.ireturn, 1) := by decide +kernel
theorem dX4_reachFromBest_0 : decode cX4_reachFromBest 0 = .ok (.aload_n 0, 1) := by decide +kernel
theorem dX4_reachFromBest_1 : decode cX4_reachFromBest 1 = .ok (.invokevirtual 88, 3) := by decide +kernel
theorem dX4_reachFromBest_4 : decode cX4_reachFromBest 4 = .ok (.istore_n 1, 1) := by decide +kernel
theorem dX4_reachFromBest_5 : decode cX4_reachFromBest 5 = .ok (.iload_n 1, 1) := by decide +kernel
theorem dX4_reachFromBest_6 : decode cX4_reachFromBest 6 = .ok (.iconst (-1), 1) := by decide +kernel
theorem dX4_reachFromBest_7 : decode cX4_reachFromBest 7 = .ok (.if_icmp .ne 4, 3) := by decide +kernel
theorem dX4_reachFromBest_10 : decode cX4_reachFromBest 10 = .ok (.return_, 1) := by decide +kernel
theorem dX4_reachFromBest_11 : decode cX4_reachFromBest 11 = .ok (.aload_n 0, 1) := by decide +kernel
theorem dX4_reachFromBest_12 : decode cX4_reachFromBest 12 = .ok (.getfield 18, 3) := by decide +kernel
theorem dX4_reachFromBest_15 : decode cX4_reachFromBest 15 = .ok (.iload_n 1, 1) := by decide +kernel
theorem dX4_reachFromBest_16 : decode cX4_reachFromBest 16 = .ok (.iconst 1, 1) := by decide +kernel
theorem dX4_reachFromBest_17 : decode cX4_reachFromBest 17 = .ok (.bastore, 1) := by decide +kernel
theorem dX4_reachFromBest_18 : decode cX4_reachFromBest 18 = .ok (.iconst 0, 1) := by decide +kernel
theorem dX4_reachFromBest_19 : decode cX4_reachFromBest 19 = .ok (.istore_n 2, 1) := by decide +kernel
theorem dX4_reachFromBest_20 : decode cX4_reachFromBest 20 = .ok (.iload_n 2, 1) := by decide +kernel
theorem dX4_reachFromBest_21 : decode cX4_reachFromBest 21 = .ok (.bipush 12, 2) := by decide +kernel
theorem dX4_reachFromBest_23 : decode cX4_reachFromBest 23 = .ok (.if_icmp .ge 101, 3) := by decide +kernel
theorem dX4_reachFromBest_26 : decode cX4_reachFromBest 26 = .ok (.aload_n 0, 1) := by decide +kernel
theorem dX4_reachFromBest_27 : decode cX4_reachFromBest 27 = .ok (.getfield 9, 3) := by decide +kernel
theorem dX4_reachFromBest_30 : decode cX4_reachFromBest 30 = .ok (.iload_n 2, 1) := by decide +kernel
theorem dX4_reachFromBest_31 : decode cX4_reachFromBest 31 = .ok (.baload, 1) := by decide +kernel
theorem dX4_reachFromBest_32 : decode cX4_reachFromBest 32 = .ok (.ifCond .eq 86, 3) := by decide +kernel
theorem dX4_reachFromBest_35 : decode cX4_reachFromBest 35 = .ok (.aload_n 0, 1) := by decide +kernel
theorem dX4_reachFromBest_36 : decode cX4_reachFromBest 36 = .ok (.getfield 18, 3) := by decide +kernel
theorem dX4_reachFromBest_39 : decode cX4_reachFromBest 39 = .ok (.iload_n 2, 1) := by decide +kernel
theorem dX4_reachFromBest_40 : decode cX4_reachFromBest 40 = .ok (.baload, 1) := by decide +kernel
theorem dX4_reachFromBest_41 : decode cX4_reachFromBest 41 = .ok (.ifCond .ne 77, 3) := by decide +kernel
theorem dX4_reachFromBest_44 : decode cX4_reachFromBest 44 = .ok (.aload_n 0, 1) := by decide +kernel
theorem dX4_reachFromBest_45 : decode cX4_reachFromBest 45 = .ok (.iload_n 2, 1) := by decide +kernel
theorem dX4_reachFromBest_46 : decode cX4_reachFromBest 46 = .ok (.iload_n 1, 1) := by decide +kernel
theorem dX4_reachFromBest_47 : decode cX4_reachFromBest 47 = .ok (.invokevirtual 92, 3) := by decide +kernel
theorem dX4_reachFromBest_50 : decode cX4_reachFromBest 50 = .ok (.ifCond .eq 68, 3) := by decide +kernel
theorem dX4_reachFromBest_53 : decode cX4_reachFromBest 53 = .ok (.aload_n 0, 1) := by decide +kernel
theorem dX4_reachFromBest_54 : decode cX4_reachFromBest 54 = .ok (.getfield 21, 3) := by decide +kernel
theorem dX4_reachFromBest_57 : decode cX4_reachFromBest 57 = .ok (.iload_n 1, 1) := by decide +kernel
theorem dX4_reachFromBest_58 : decode cX4_reachFromBest 58 = .ok (.iaload, 1) := by decide +kernel
theorem dX4_reachFromBest_59 : decode cX4_reachFromBest 59 = .ok (.aload_n 0, 1) := by decide +kernel
theorem dX4_reachFromBest_60 : decode cX4_reachFromBest 60 = .ok (.iload_n 2, 1) := by decide +kernel
theorem dX4_reachFromBest_61 : decode cX4_reachFromBest 61 = .ok (.invokevirtual 80, 3) := by decide +kernel
theorem dX4_reachFromBest_64 : decode cX4_reachFromBest 64 = .ok (.iadd, 1) := by decide +kernel
theorem dX4_reachFromBest_65 : decode cX4_reachFromBest 65 = .ok (.istore_n 3, 1) := by decide +kernel
theorem dX4_reachFromBest_66 : decode cX4_reachFromBest 66 = .ok (.aload_n 0, 1) := by decide +kernel
theorem dX4_reachFromBest_67 : decode cX4_reachFromBest 67 = .ok (.getfield 25, 3) := by decide +kernel
theorem dX4_reachFromBest_70 : decode cX4_reachFromBest 70 = .ok (.iload_n 1, 1) := by decide +kernel
theorem dX4_reachFromBest_71 : decode cX4_reachFromBest 71 = .ok (.iaload, 1) := by decide +kernel
theorem dX4_reachFromBest_72 : decode cX4_reachFromBest 72 = .ok (.iconst 1, 1) := by decide +kernel
theorem dX4_reachFromBest_73 : decode cX4_reachFromBest 73 = .ok (.iadd, 1) := by decide +kernel
theorem dX4_reachFromBest_74 : decode cX4_reachFromBest 74 = .ok (.istore 4, 2) := by decide +kernel
theorem dX4_reachFromBest_76 : decode cX4_reachFromBest 76 = .ok (.aload_n 0, 1) := by decide +kernel
theorem dX4_reachFromBest_77 : decode cX4_reachFromBest 77 = .ok (.getfield 15, 3) := by decide +kernel
theorem dX4_reachFromBest_80 : decode cX4_reachFromBest 80 = .ok (.iload_n 2, 1) := by decide +kernel
theorem dX4_reachFromBest_81 : decode cX4_reachFromBest 81 = .ok (.baload, 1) := by decide +kernel
theorem dX4_reachFromBest_82 : decode cX4_reachFromBest 82 = .ok (.ifCond .eq 14, 3) := by decide +kernel
theorem dX4_reachFromBest_85 : decode cX4_reachFromBest 85 = .ok (.aload_n 0, 1) := by decide +kernel
theorem dX4_reachFromBest_86 : decode cX4_reachFromBest 86 = .ok (.iload_n 3, 1) := by decide +kernel
theorem dX4_reachFromBest_87 : decode cX4_reachFromBest 87 = .ok (.iload 4, 2) := by decide +kernel
theorem dX4_reachFromBest_89 : decode cX4_reachFromBest 89 = .ok (.iload_n 2, 1) := by decide +kernel
theorem dX4_reachFromBest_90 : decode cX4_reachFromBest 90 = .ok (.invokevirtual 84, 3) := by decide +kernel
theorem dX4_reachFromBest_93 : decode cX4_reachFromBest 93 = .ok (.ifCond .eq 25, 3) := by decide +kernel
theorem dX4_reachFromBest_96 : decode cX4_reachFromBest 96 = .ok (.aload_n 0, 1) := by decide +kernel
theorem dX4_reachFromBest_97 : decode cX4_reachFromBest 97 = .ok (.getfield 15, 3) := by decide +kernel
theorem dX4_reachFromBest_100 : decode cX4_reachFromBest 100 = .ok (.iload_n 2, 1) := by decide +kernel
theorem dX4_reachFromBest_101 : decode cX4_reachFromBest 101 = .ok (.iconst 1, 1) := by decide +kernel
theorem dX4_reachFromBest_102 : decode cX4_reachFromBest 102 = .ok (.bastore, 1) := by decide +kernel
theorem dX4_reachFromBest_103 : decode cX4_reachFromBest 103 = .ok (.aload_n 0, 1) := by decide +kernel
theorem dX4_reachFromBest_104 : decode cX4_reachFromBest 104 = .ok (.getfield 21, 3) := by decide +kernel
theorem dX4_reachFromBest_107 : decode cX4_reachFromBest 107 = .ok (.iload_n 2, 1) := by decide +kernel
theorem dX4_reachFromBest_108 : decode cX4_reachFromBest 108 = .ok (.iload_n 3, 1) := by decide +kernel
theorem dX4_reachFromBest_109 : decode cX4_reachFromBest 109 = .ok (.iastore, 1) := by decide +kernel
theorem dX4_reachFromBest_110 : decode cX4_reachFromBest 110 = .ok (.aload_n 0, 1) := by decide +kernel
theorem dX4_reachFromBest_111 : decode cX4_reachFromBest 111 = .ok (.getfield 25, 3) := by decide +kernel
theorem dX4_reachFromBest_114 : decode cX4_reachFromBest 114 = .ok (.iload_n 2, 1) := by decide +kernel
theorem dX4_reachFromBest_115 : decode cX4_reachFromBest 115 = .ok (.iload 4, 2) := by decide +kernel
theorem dX4_reachFromBest_117 : decode cX4_reachFromBest 117 = .ok (.iastore, 1) := by decide +kernel
theorem dX4_reachFromBest_118 : decode cX4_reachFromBest 118 = .ok (.iinc 2 1, 3) := by decide +kernel
theorem dX4_reachFromBest_121 : decode cX4_reachFromBest 121 = .ok (.goto (-101), 3) := by decide +kernel
theorem dX4_reachFromBest_124 : decode cX4_reachFromBest 124 = .ok (.return_, 1) := by decide +kernel
theorem dX4_follow_0 : decode cX4_follow 0 = .ok (.iload_n 1, 1) := by decide +kernel
theorem dX4_follow_1 : decode cX4_follow 1 = .ok (.istore_n 3, 1) := by decide +kernel
theorem dX4_follow_2 : decode cX4_follow 2 = .ok (.iconst 0, 1) := by decide +kernel
theorem dX4_follow_3 : decode cX4_follow 3 = .ok (.istore 4, 2) := by decide +kernel
theorem dX4_follow_5 : decode cX4_follow 5 = .ok (.iload 4, 2) := by decide +kernel
theorem dX4_follow_7 : decode cX4_follow 7 = .ok (.bipush 12, 2) := by decide +kernel
theorem dX4_follow_9 : decode cX4_follow 9 = .ok (.if_icmp .ge 45, 3) := by decide +kernel
theorem dX4_follow_12 : decode cX4_follow 12 = .ok (.iload_n 3, 1) := by decide +kernel
theorem dX4_follow_13 : decode cX4_follow 13 = .ok (.iconst (-1), 1) := by decide +kernel
theorem dX4_follow_14 : decode cX4_follow 14 = .ok (.if_icmp .eq 40, 3) := by decide +kernel
theorem dX4_follow_17 : decode cX4_follow 17 = .ok (.aload_n 0, 1) := by decide +kernel
theorem dX4_follow_18 : decode cX4_follow 18 = .ok (.getfield 28, 3) := by decide +kernel
theorem dX4_follow_21 : decode cX4_follow 21 = .ok (.iload 4, 2) := by decide +kernel
theorem dX4_follow_23 : decode cX4_follow 23 = .ok (.iload_n 3, 1) := by decide +kernel
theorem dX4_follow_24 : decode cX4_follow 24 = .ok (.iastore, 1) := by decide +kernel
theorem dX4_follow_25 : decode cX4_follow 25 = .ok (.aload_n 0, 1) := by decide +kernel
theorem dX4_follow_26 : decode cX4_follow 26 = .ok (.iload 4, 2) := by decide +kernel
theorem dX4_follow_28 : decode cX4_follow 28 = .ok (.iconst 1, 1) := by decide +kernel
theorem dX4_follow_29 : decode cX4_follow 29 = .ok (.iadd, 1) := by decide +kernel
theorem dX4_follow_30 : decode cX4_follow 30 = .ok (.putfield 53, 3) := by decide +kernel
theorem dX4_follow_33 : decode cX4_follow 33 = .ok (.iload_n 3, 1) := by decide +kernel
theorem dX4_follow_34 : decode cX4_follow 34 = .ok (.iload_n 2, 1) := by decide +kernel
theorem dX4_follow_35 : decode cX4_follow 35 = .ok (.if_icmp .ne 7, 3) := by decide +kernel
theorem dX4_follow_38 : decode cX4_follow 38 = .ok (.iconst (-1), 1) := by decide +kernel
theorem dX4_follow_39 : decode cX4_follow 39 = .ok (.goto 8, 3) := by decide +kernel
theorem dX4_follow_42 : decode cX4_follow 42 = .ok (.aload_n 0, 1) := by decide +kernel
theorem dX4_follow_43 : decode cX4_follow 43 = .ok (.iload_n 3, 1) := by decide +kernel
theorem dX4_follow_44 : decode cX4_follow 44 = .ok (.invokevirtual 96, 3) := by decide +kernel
theorem dX4_follow_47 : decode cX4_follow 47 = .ok (.istore_n 3, 1) := by decide +kernel
theorem dX4_follow_48 : decode cX4_follow 48 = .ok (.iinc 4 1, 3) := by decide +kernel
theorem dX4_follow_51 : decode cX4_follow 51 = .ok (.goto (-46), 3) := by decide +kernel
theorem dX4_follow_54 : decode cX4_follow 54 = .ok (.return_, 1) := by decide +kernel
theorem dX4_nextOf_0 : decode cX4_nextOf 0 = .ok (.iconst 0, 1) := by decide +kernel
theorem dX4_nextOf_1 : decode cX4_nextOf 1 = .ok (.istore_n 2, 1) := by decide +kernel
theorem dX4_nextOf_2 : decode cX4_nextOf 2 = .ok (.iload_n 2, 1) := by decide +kernel
theorem dX4_nextOf_3 : decode cX4_nextOf 3 = .ok (.bipush 12, 2) := by decide +kernel
theorem dX4_nextOf_5 : decode cX4_nextOf 5 = .ok (.if_icmp .ge 67, 3) := by decide +kernel
theorem dX4_nextOf_8 : decode cX4_nextOf 8 = .ok (.aload_n 0, 1) := by decide +kernel
theorem dX4_nextOf_9 : decode cX4_nextOf 9 = .ok (.getfield 15, 3) := by decide +kernel
theorem dX4_nextOf_12 : decode cX4_nextOf 12 = .ok (.iload_n 2, 1) := by decide +kernel
theorem dX4_nextOf_13 : decode cX4_nextOf 13 = .ok (.baload, 1) := by decide +kernel
theorem dX4_nextOf_14 : decode cX4_nextOf 14 = .ok (.ifCond .eq 52, 3) := by decide +kernel
theorem dX4_nextOf_17 : decode cX4_nextOf 17 = .ok (.aload_n 0, 1) := by decide +kernel
theorem dX4_nextOf_18 : decode cX4_nextOf 18 = .ok (.getfield 25, 3) := by decide +kernel
theorem dX4_nextOf_21 : decode cX4_nextOf 21 = .ok (.iload_n 2, 1) := by decide +kernel
theorem dX4_nextOf_22 : decode cX4_nextOf 22 = .ok (.iaload, 1) := by decide +kernel
theorem dX4_nextOf_23 : decode cX4_nextOf 23 = .ok (.iconst 1, 1) := by decide +kernel
theorem dX4_nextOf_24 : decode cX4_nextOf 24 = .ok (.iadd, 1) := by decide +kernel
theorem dX4_nextOf_25 : decode cX4_nextOf 25 = .ok (.aload_n 0, 1) := by decide +kernel
theorem dX4_nextOf_26 : decode cX4_nextOf 26 = .ok (.getfield 25, 3) := by decide +kernel
theorem dX4_nextOf_29 : decode cX4_nextOf 29 = .ok (.iload_n 1, 1) := by decide +kernel
theorem dX4_nextOf_30 : decode cX4_nextOf 30 = .ok (.iaload, 1) := by decide +kernel
theorem dX4_nextOf_31 : decode cX4_nextOf 31 = .ok (.if_icmp .ne 35, 3) := by decide +kernel
theorem dX4_nextOf_34 : decode cX4_nextOf 34 = .ok (.aload_n 0, 1) := by decide +kernel
theorem dX4_nextOf_35 : decode cX4_nextOf 35 = .ok (.getfield 21, 3) := by decide +kernel
theorem dX4_nextOf_38 : decode cX4_nextOf 38 = .ok (.iload_n 2, 1) := by decide +kernel
theorem dX4_nextOf_39 : decode cX4_nextOf 39 = .ok (.iaload, 1) := by decide +kernel
theorem dX4_nextOf_40 : decode cX4_nextOf 40 = .ok (.aload_n 0, 1) := by decide +kernel
theorem dX4_nextOf_41 : decode cX4_nextOf 41 = .ok (.iload_n 1, 1) := by decide +kernel
theorem dX4_nextOf_42 : decode cX4_nextOf 42 = .ok (.invokevirtual 80, 3) := by decide +kernel
theorem dX4_nextOf_45 : decode cX4_nextOf 45 = .ok (.iadd, 1) := by decide +kernel
theorem dX4_nextOf_46 : decode cX4_nextOf 46 = .ok (.aload_n 0, 1) := by decide +kernel
theorem dX4_nextOf_47 : decode cX4_nextOf 47 = .ok (.getfield 21, 3) := by decide +kernel
theorem dX4_nextOf_50 : decode cX4_nextOf 50 = .ok (.iload_n 1, 1) := by decide +kernel
theorem dX4_nextOf_51 : decode cX4_nextOf 51 = .ok (.iaload, 1) := by decide +kernel
theorem dX4_nextOf_52 : decode cX4_nextOf 52 = .ok (.if_icmp .ne 14, 3) := by decide +kernel
theorem dX4_nextOf_55 : decode cX4_nextOf 55 = .ok (.aload_n 0, 1) := by decide +kernel
theorem dX4_nextOf_56 : decode cX4_nextOf 56 = .ok (.iload_n 1, 1) := by decide +kernel
theorem dX4_nextOf_57 : decode cX4_nextOf 57 = .ok (.iload_n 2, 1) := by decide +kernel
theorem dX4_nextOf_58 : decode cX4_nextOf 58 = .ok (.invokevirtual 92, 3) := by decide +kernel
theorem dX4_nextOf_61 : decode cX4_nextOf 61 = .ok (.ifCond .eq 5, 3) := by decide +kernel
theorem dX4_nextOf_64 : decode cX4_nextOf 64 = .ok (.iload_n 2, 1) := by decide +kernel
theorem dX4_nextOf_65 : decode cX4_nextOf 65 = .ok (.ireturn, 1) := by decide +kernel
theorem dX4_nextOf_66 : decode cX4_nextOf 66 = .ok (.iinc 2 1, 3) := by decide +kernel
theorem dX4_nextOf_69 : decode cX4_nextOf 69 = .ok (.goto (-67), 3) := by decide +kernel
theorem dX4_nextOf_72 : decode cX4_nextOf 72 = .ok (.iconst (-1), 1) := by decide +kernel
theorem dX4_nextOf_73 : decode cX4_nextOf 73 = .ok (.ireturn, 1) := by decide +kernel
theorem dX5_init_0 : decode cX5_init 0 = .ok (.aload_n 0, 1) := by decide +kernel
theorem dX5_init_1 : decode cX5_init 1 = .ok (.invokespecial 1, 3) := by decide +kernel
theorem dX5_init_4 : decode cX5_init 4 = .ok (.aload_n 0, 1) := by decide +kernel
theorem dX5_init_5 : decode cX5_init 5 = .ok (.bipush 12, 2) := by decide +kernel
theorem dX5_init_7 : decode cX5_init 7 = .ok (.anewarray 9, 3) := by decide +kernel
theorem dX5_init_10 : decode cX5_init 10 = .ok (.putfield 11, 3) := by decide +kernel
theorem dX5_init_13 : decode cX5_init 13 = .ok (.iconst 0, 1) := by decide +kernel
theorem dX5_init_14 : decode cX5_init 14 = .ok (.istore_n 1, 1) := by decide +kernel
theorem dX5_init_15 : decode cX5_init 15 = .ok (.iload_n 1, 1) := by decide +kernel
theorem dX5_init_16 : decode cX5_init 16 = .ok (.bipush 12, 2) := by decide +kernel
theorem dX5_init_18 : decode cX5_init 18 = .ok (.if_icmp .ge 22, 3) := by decide +kernel
theorem dX5_init_21 : decode cX5_init 21 = .ok (.aload_n 0, 1) := by decide +kernel
theorem dX5_init_22 : decode cX5_init 22 = .ok (.getfield 11, 3) := by decide +kernel
theorem dX5_init_25 : decode cX5_init 25 = .ok (.iload_n 1, 1) := by decide +kernel
theorem dX5_init_26 : decode cX5_init 26 = .ok (.new 9, 3) := by decide +kernel
theorem dX5_init_29 : decode cX5_init 29 = .ok (.dup, 1) := by decide +kernel
theorem dX5_init_30 : decode cX5_init 30 = .ok (.invokespecial 15, 3) := by decide +kernel
theorem dX5_init_33 : decode cX5_init 33 = .ok (.aastore, 1) := by decide +kernel
theorem dX5_init_34 : decode cX5_init 34 = .ok (.iinc 1 1, 3) := by decide +kernel
theorem dX5_init_37 : decode cX5_init 37 = .ok (.goto (-22), 3) := by decide +kernel
theorem dX5_init_40 : decode cX5_init 40 = .ok (.aload_n 0, 1) := by decide +kernel
theorem dX5_init_41 : decode cX5_init 41 = .ok (.bipush 40, 2) := by decide +kernel
theorem dX5_init_43 : decode cX5_init 43 = .ok (.anewarray 16, 3) := by decide +kernel
theorem dX5_init_46 : decode cX5_init 46 = .ok (.putfield 18, 3) := by decide +kernel
theorem dX5_init_49 : decode cX5_init 49 = .ok (.iconst 0, 1) := by decide +kernel
theorem dX5_init_50 : decode cX5_init 50 = .ok (.istore_n 1, 1) := by decide +kernel
theorem dX5_init_51 : decode cX5_init 51 = .ok (.iload_n 1, 1) := by decide +kernel
theorem dX5_init_52 : decode cX5_init 52 = .ok (.bipush 40, 2) := by decide +kernel
theorem dX5_init_54 : decode cX5_init 54 = .ok (.if_icmp .ge 22, 3) := by decide +kernel
theorem dX5_init_57 : decode cX5_init 57 = .ok (.aload_n 0, 1) := by decide +kernel
theorem dX5_init_58 : decode cX5_init 58 = .ok (.getfield 18, 3) := by decide +kernel
theorem dX5_init_61 : decode cX5_init 61 = .ok (.iload_n 1, 1) := by decide +kernel
theorem dX5_init_62 : decode cX5_init 62 = .ok (.new 16, 3) := by decide +kernel
theorem dX5_init_65 : decode cX5_init 65 = .ok (.dup, 1) := by decide +kernel
theorem dX5_init_66 : decode cX5_init 66 = .ok (.invokespecial 22, 3) := by decide +kernel
theorem dX5_init_69 : decode cX5_init 69 = .ok (.aastore, 1) := by decide +kernel
theorem dX5_init_70 : decode cX5_init 70 = .ok (.iinc 1 1, 3) := by decide +kernel
theorem dX5_init_73 : decode cX5_init 73 = .ok (.goto (-22), 3) := by decide +kernel
theorem dX5_init_76 : decode cX5_init 76 = .ok (.aload_n 0, 1) := by decide +kernel
theorem dX5_init_77 : decode cX5_init 77 = .ok (.bipush 40, 2) := by decide +kernel
theorem dX5_init_79 : decode cX5_init 79 = .ok (.anewarray 23, 3) := by decide +kernel
theorem dX5_init_82 : decode cX5_init 82 = .ok (.putfield 25, 3) := by decide +kernel
theorem dX5_init_85 : decode cX5_init 85 = .ok (.iconst 0, 1) := by decide +kernel
theorem dX5_init_86 : decode cX5_init 86 = .ok (.istore_n 1, 1) := by decide +kernel
theorem dX5_init_87 : decode cX5_init 87 = .ok (.iload_n 1, 1) := by decide +kernel
theorem dX5_init_88 : decode cX5_init 88 = .ok (.bipush 40, 2) := by decide +kernel
theorem dX5_init_90 : decode cX5_init 90 = .ok (.if_icmp .ge 22, 3) := by decide +kernel
theorem dX5_init_93 : decode cX5_init 93 = .ok (.aload_n 0, 1) := by decide +kernel
theorem dX5_init_94 : decode cX5_init 94 = .ok (.getfield 25, 3) := by decide +kernel
theorem dX5_init_97 : decode cX5_init 97 = .ok (.iload_n 1, 1) := by decide +kernel
theorem dX5_init_98 : decode cX5_init 98 = .ok (.new 23, 3) := by decide +kernel
theorem dX5_init_101 : decode cX5_init 101 = .ok (.dup, 1) := by decide +kernel
theorem dX5_init_102 : decode cX5_init 102 = .ok (.invokespecial 29, 3) := by decide +kernel
theorem dX5_init_105 : decode cX5_init 105 = .ok (.aastore, 1) := by decide +kernel
theorem dX5_init_106 : decode cX5_init 106 = .ok (.iinc 1 1, 3) := by decide +kernel
theorem dX5_init_109 : decode cX5_init 109 = .ok (.goto (-22), 3) := by decide +kernel
theorem dX5_init_112 : decode cX5_init 112 = .ok (.aload_n 0, 1) := by decide +kernel
theorem dX5_init_113 : decode cX5_init 113 = .ok (.new 30, 3) := by decide +kernel
theorem dX5_init_116 : decode cX5_init 116 = .ok (.dup, 1) := by decide +kernel
theorem dX5_init_117 : decode cX5_init 117 = .ok (.invokespecial 32, 3) := by decide +kernel
theorem dX5_init_120 : decode cX5_init 120 = .ok (.putfield 33, 3) := by decide +kernel
theorem dX5_init_123 : decode cX5_init 123 = .ok (.aload_n 0, 1) := by decide +kernel
theorem dX5_init_124 : decode cX5_init 124 = .ok (.new 37, 3) := by decide +kernel
theorem dX5_init_127 : decode cX5_init 127 = .ok (.dup, 1) := by decide +kernel
theorem dX5_init_128 : decode cX5_init 128 = .ok (.aload_n 0, 1) := by decide +kernel
theorem dX5_init_129 : decode cX5_init 129 = .ok (.getfield 11, 3) := by decide +kernel
theorem dX5_init_132 : decode cX5_init 132 = .ok (.aload_n 0, 1) := by decide +kernel
theorem dX5_init_133 : decode cX5_init 133 = .ok (.getfield 33, 3) := by decide +kernel
theorem dX5_init_136 : decode cX5_init 136 = .ok (.invokespecial 39, 3) := by decide +kernel
theorem dX5_init_139 : decode cX5_init 139 = .ok (.putfield 42, 3) := by decide +kernel
theorem dX5_init_142 : decode cX5_init 142 = .ok (.aload_n 0, 1) := by decide +kernel
theorem dX5_init_143 : decode cX5_init 143 = .ok (.bipush 8, 2) := by decide +kernel
theorem dX5_init_145 : decode cX5_init 145 = .ok (.newarray .int, 2) := by decide +kernel
theorem dX5_init_147 : decode cX5_init 147 = .ok (.putfield 46, 3) := by decide +kernel
theorem dX5_init_150 : decode cX5_init 150 = .ok (.iconst 0, 1) := by decide +kernel
theorem dX5_init_151 : decode cX5_init 151 = .ok (.istore_n 1, 1) := by decide +kernel
theorem dX5_init_152 : decode cX5_init 152 = .ok (.iload_n 1, 1) := by decide +kernel
theorem dX5_init_153 : decode cX5_init 153 = .ok (.bipush 8, 2) := by decide +kernel
theorem dX5_init_155 : decode cX5_init 155 = .ok (.if_icmp .ge 17, 3) := by decide +kernel
theorem dX5_init_158 : decode cX5_init 158 = .ok (.aload_n 0, 1) := by decide +kernel
theorem dX5_init_159 : decode cX5_init 159 = .ok (.getfield 46, 3) := by decide +kernel
theorem dX5_init_162 : decode cX5_init 162 = .ok (.iload_n 1, 1) := by decide +kernel
theorem dX5_init_163 : decode cX5_init 163 = .ok (.ldc 50, 2) := by decide +kernel
theorem dX5_init_165 : decode cX5_init 165 = .ok (.iastore, 1) := by decide +kernel
theorem dX5_init_166 : decode cX5_init 166 = .ok (.iinc 1 1, 3) := by decide +kernel
theorem dX5_init_169 : decode cX5_init 169 = .ok (.goto (-17), 3) := by decide +kernel
theorem dX5_init_172 : decode cX5_init 172 = .ok (.aload_n 0, 1) := by decide +kernel
theorem dX5_init_173 : decode cX5_init 173 = .ok (.bipush 8, 2) := by decide +kernel
theorem dX5_init_175 : decode cX5_init 175 = .ok (.newarray .int, 2) := by decide +kernel
theorem dX5_init_177 : decode cX5_init 177 = .ok (.putfield 51, 3) := by decide +kernel
theorem dX5_init_180 : decode cX5_init 180 = .ok (.aload_n 0, 1) := by decide +kernel
theorem dX5_init_181 : decode cX5_init 181 = .ok (.bipush 20, 2) := by decide +kernel
theorem dX5_init_183 : decode cX5_init 183 = .ok (.newarray .boolean, 2) := by decide +kernel
theorem dX5_init_185 : decode cX5_init 185 = .ok (.putfield 54, 3) := by decide +kernel
theorem dX5_init_188 : decode cX5_init 188 = .ok (.return_, 1) := by decide +kernel
theorem dX5_broker_0 : decode cX5_broker 0 = .ok (.iload_n 1, 1) := by decide +kernel
theorem dX5_broker_1 : decode cX5_broker 1 = .ok (.bipush 8, 2) := by decide +kernel
theorem dX5_broker_3 : decode cX5_broker 3 = .ok (.invokestatic 58, 3) := by decide +kernel
theorem dX5_broker_6 : decode cX5_broker 6 = .ok (.iload_n 2, 1) := by decide +kernel
theorem dX5_broker_7 : decode cX5_broker 7 = .ok (.iconst 0, 1) := by decide +kernel
theorem dX5_broker_8 : decode cX5_broker 8 = .ok (.ldc 50, 2) := by decide +kernel
theorem dX5_broker_10 : decode cX5_broker 10 = .ok (.invokestatic 62, 3) := by decide +kernel
theorem dX5_broker_13 : decode cX5_broker 13 = .ok (.iload_n 3, 1) := by decide +kernel
theorem dX5_broker_14 : decode cX5_broker 14 = .ok (.iconst 0, 1) := by decide +kernel
theorem dX5_broker_15 : decode cX5_broker 15 = .ok (.bipush 100, 2) := by decide +kernel
theorem dX5_broker_17 : decode cX5_broker 17 = .ok (.invokestatic 62, 3) := by decide +kernel
theorem dX5_broker_20 : decode cX5_broker 20 = .ok (.aload_n 0, 1) := by decide +kernel
theorem dX5_broker_21 : decode cX5_broker 21 = .ok (.getfield 66, 3) := by decide +kernel
theorem dX5_broker_24 : decode cX5_broker 24 = .ok (.bipush 12, 2) := by decide +kernel
theorem dX5_broker_26 : decode cX5_broker 26 = .ok (.if_icmp .ge 7, 3) := by decide +kernel
theorem dX5_broker_29 : decode cX5_broker 29 = .ok (.iconst 1, 1) := by decide +kernel
theorem dX5_broker_30 : decode cX5_broker 30 = .ok (.goto 4, 3) := by decide +kernel
theorem dX5_broker_33 : decode cX5_broker 33 = .ok (.iconst 0, 1) := by decide +kernel
theorem dX5_broker_34 : decode cX5_broker 34 = .ok (.invokestatic 70, 3) := by decide +kernel
theorem dX5_broker_37 : decode cX5_broker 37 = .ok (.aload_n 0, 1) := by decide +kernel
theorem dX5_broker_38 : decode cX5_broker 38 = .ok (.getfield 11, 3) := by decide +kernel
theorem dX5_broker_41 : decode cX5_broker 41 = .ok (.aload_n 0, 1) := by decide +kernel
theorem dX5_broker_42 : decode cX5_broker 42 = .ok (.getfield 66, 3) := by decide +kernel
theorem dX5_broker_45 : decode cX5_broker 45 = .ok (.aaload, 1) := by decide +kernel
theorem dX5_broker_46 : decode cX5_broker 46 = .ok (.astore 4, 2) := by decide +kernel
theorem dX5_broker_48 : decode cX5_broker 48 = .ok (.aload 4, 2) := by decide +kernel
theorem dX5_broker_50 : decode cX5_broker 50 = .ok (.iload_n 1, 1) := by decide +kernel
theorem dX5_broker_51 : decode cX5_broker 51 = .ok (.putfield 74, 3) := by decide +kernel
theorem dX5_broker_54 : decode cX5_broker 54 = .ok (.aload 4, 2) := by decide +kernel
theorem dX5_broker_56 : decode cX5_broker 56 = .ok (.iload_n 2, 1) := by decide +kernel
theorem dX5_broker_57 : decode cX5_broker 57 = .ok (.i2l, 1) := by decide +kernel
theorem dX5_broker_58 : decode cX5_broker 58 = .ok (.putfield 77, 3) := by decide +kernel
theorem dX5_broker_61 : decode cX5_broker 61 = .ok (.aload 4, 2) := by decide +kernel
theorem dX5_broker_63 : decode cX5_broker 63 = .ok (.iload_n 3, 1) := by decide +kernel
theorem dX5_broker_64 : decode cX5_broker 64 = .ok (.putfield 81, 3) := by decide +kernel
theorem dX5_broker_67 : decode cX5_broker 67 = .ok (.aload_n 0, 1) := by decide +kernel
theorem dX5_broker_68 : decode cX5_broker 68 = .ok (.dup, 1) := by decide +kernel
theorem dX5_broker_69 : decode cX5_broker 69 = .ok (.getfield 66, 3) := by decide +kernel
theorem dX5_broker_72 : decode cX5_broker 72 = .ok (.iconst 1, 1) := by decide +kernel
theorem dX5_broker_73 : decode cX5_broker 73 = .ok (.iadd, 1) := by decide +kernel
theorem dX5_broker_74 : decode cX5_broker 74 = .ok (.putfield 66, 3) := by decide +kernel
theorem dX5_broker_77 : decode cX5_broker 77 = .ok (.aload_n 0, 1) := by decide +kernel
theorem dX5_broker_78 : decode cX5_broker 78 = .ok (.getfield 66, 3) := by decide +kernel
theorem dX5_broker_81 : decode cX5_broker 81 = .ok (.iconst 1, 1) := by decide +kernel
theorem dX5_broker_82 : decode cX5_broker 82 = .ok (.isub, 1) := by decide +kernel
theorem dX5_broker_83 : decode cX5_broker 83 = .ok (.ireturn, 1) := by decide +kernel
theorem dX5_rate_0 : decode cX5_rate 0 = .ok (.iload_n 1, 1) := by decide +kernel
theorem dX5_rate_1 : decode cX5_rate 1 = .ok (.aload_n 0, 1) := by decide +kernel
theorem dX5_rate_2 : decode cX5_rate 2 = .ok (.getfield 66, 3) := by decide +kernel
theorem dX5_rate_5 : decode cX5_rate 5 = .ok (.invokestatic 58, 3) := by decide +kernel
theorem dX5_rate_8 : decode cX5_rate 8 = .ok (.iload_n 2, 1) := by decide +kernel
theorem dX5_rate_9 : decode cX5_rate 9 = .ok (.iconst 0, 1) := by decide +kernel
theorem dX5_rate_10 : decode cX5_rate 10 = .ok (.bipush 100, 2) := by decide +kernel
theorem dX5_rate_12 : decode cX5_rate 12 = .ok (.invokestatic 62, 3) := by decide +kernel
theorem dX5_rate_15 : decode cX5_rate 15 = .ok (.aload_n 0, 1) := by decide +kernel
theorem dX5_rate_16 : decode cX5_rate 16 = .ok (.getfield 11, 3) := by decide +kernel
theorem dX5_rate_19 : decode cX5_rate 19 = .ok (.iload_n 1, 1) := by decide +kernel
theorem dX5_rate_20 : decode cX5_rate 20 = .ok (.aaload, 1) := by decide +kernel
theorem dX5_rate_21 : decode cX5_rate 21 = .ok (.getfield 81, 3) := by decide +kernel
theorem dX5_rate_24 : decode cX5_rate 24 = .ok (.istore_n 3, 1) := by decide +kernel
theorem dX5_rate_25 : decode cX5_rate 25 = .ok (.aload_n 0, 1) := by decide +kernel
theorem dX5_rate_26 : decode cX5_rate 26 = .ok (.getfield 11, 3) := by decide +kernel
theorem dX5_rate_29 : decode cX5_rate 29 = .ok (.iload_n 1, 1) := by decide +kernel
theorem dX5_rate_30 : decode cX5_rate 30 = .ok (.aaload, 1) := by decide +kernel
theorem dX5_rate_31 : decode cX5_rate 31 = .ok (.iload_n 2, 1) := by decide +kernel
theorem dX5_rate_32 : decode cX5_rate 32 = .ok (.putfield 81, 3) := by decide +kernel
theorem dX5_rate_35 : decode cX5_rate 35 = .ok (.iload_n 3, 1) := by decide +kernel
theorem dX5_rate_36 : decode cX5_rate 36 = .ok (.ireturn, 1) := by decide +kernel
theorem dX5_trust_0 : decode cX5_trust 0 = .ok (.aload_n 0, 1) := by decide +kernel
theorem dX5_trust_1 : decode cX5_trust 1 = .ok (.iload_n 1, 1) := by decide +kernel
theorem dX5_trust_2 : decode cX5_trust 2 = .ok (.iload_n 2, 1) := by decide +kernel
theorem dX5_trust_3 : decode cX5_trust 3 = .ok (.invokevirtual 84, 3) := by decide +kernel
theorem dX5_trust_6 : decode cX5_trust 6 = .ok (.iload_n 3, 1) := by decide +kernel
theorem dX5_trust_7 : decode cX5_trust 7 = .ok (.iconst 0, 1) := by decide +kernel
theorem dX5_trust_8 : decode cX5_trust 8 = .ok (.ldc 50, 2) := by decide +kernel
theorem dX5_trust_10 : decode cX5_trust 10 = .ok (.invokestatic 62, 3) := by decide +kernel
theorem dX5_trust_13 : decode cX5_trust 13 = .ok (.aload_n 0, 1) := by decide +kernel
theorem dX5_trust_14 : decode cX5_trust 14 = .ok (.getfield 11, 3) := by decide +kernel
theorem dX5_trust_17 : decode cX5_trust 17 = .ok (.iload_n 1, 1) := by decide +kernel
theorem dX5_trust_18 : decode cX5_trust 18 = .ok (.aaload, 1) := by decide +kernel
theorem dX5_trust_19 : decode cX5_trust 19 = .ok (.getfield 87, 3) := by decide +kernel
theorem dX5_trust_22 : decode cX5_trust 22 = .ok (.iload_n 2, 1) := by decide +kernel
theorem dX5_trust_23 : decode cX5_trust 23 = .ok (.iload_n 3, 1) := by decide +kernel
theorem dX5_trust_24 : decode cX5_trust 24 = .ok (.iastore, 1) := by decide +kernel
theorem dX5_trust_25 : decode cX5_trust 25 = .ok (.aload_n 0, 1) := by decide +kernel
theorem dX5_trust_26 : decode cX5_trust 26 = .ok (.getfield 11, 3) := by decide +kernel
theorem dX5_trust_29 : decode cX5_trust 29 = .ok (.iload_n 1, 1) := by decide +kernel
theorem dX5_trust_30 : decode cX5_trust 30 = .ok (.aaload, 1) := by decide +kernel
theorem dX5_trust_31 : decode cX5_trust 31 = .ok (.getfield 90, 3) := by decide +kernel
theorem dX5_trust_34 : decode cX5_trust 34 = .ok (.iload_n 2, 1) := by decide +kernel
theorem dX5_trust_35 : decode cX5_trust 35 = .ok (.iload 4, 2) := by decide +kernel
theorem dX5_trust_37 : decode cX5_trust 37 = .ok (.bastore, 1) := by decide +kernel
theorem dX5_trust_38 : decode cX5_trust 38 = .ok (.return_, 1) := by decide +kernel
theorem dX5_festival_0 : decode cX5_festival 0 = .ok (.aload_n 0, 1) := by decide +kernel
theorem dX5_festival_1 : decode cX5_festival 1 = .ok (.aload_n 0, 1) := by decide +kernel
theorem dX5_festival_2 : decode cX5_festival 2 = .ok (.getfield 93, 3) := by decide +kernel
theorem dX5_festival_5 : decode cX5_festival 5 = .ok (.ifCond .ne 7, 3) := by decide +kernel
theorem dX5_festival_8 : decode cX5_festival 8 = .ok (.iconst 1, 1) := by decide +kernel
theorem dX5_festival_9 : decode cX5_festival 9 = .ok (.goto 4, 3) := by decide +kernel
theorem dX5_festival_12 : decode cX5_festival 12 = .ok (.iconst 0, 1) := by decide +kernel
theorem dX5_festival_13 : decode cX5_festival 13 = .ok (.putfield 93, 3) := by decide +kernel
theorem dX5_festival_16 : decode cX5_festival 16 = .ok (.aload_n 0, 1) := by decide +kernel
theorem dX5_festival_17 : decode cX5_festival 17 = .ok (.getfield 93, 3) := by decide +kernel
theorem dX5_festival_20 : decode cX5_festival 20 = .ok (.ireturn, 1) := by decide +kernel
theorem dX5_breakWord_0 : decode cX5_breakWord 0 = .ok (.iload_n 1, 1) := by decide +kernel
theorem dX5_breakWord_1 : decode cX5_breakWord 1 = .ok (.aload_n 0, 1) := by decide +kernel
theorem dX5_breakWord_2 : decode cX5_breakWord 2 = .ok (.getfield 66, 3) := by decide +kernel
theorem dX5_breakWord_5 : decode cX5_breakWord 5 = .ok (.invokestatic 58, 3) := by decide +kernel
theorem dX5_breakWord_8 : decode cX5_breakWord 8 = .ok (.aload_n 0, 1) := by decide +kernel
theorem dX5_breakWord_9 : decode cX5_breakWord 9 = .ok (.getfield 11, 3) := by decide +kernel
theorem dX5_breakWord_12 : decode cX5_breakWord 12 = .ok (.iload_n 1, 1) := by decide +kernel
theorem dX5_breakWord_13 : decode cX5_breakWord 13 = .ok (.aaload, 1) := by decide +kernel
theorem dX5_breakWord_14 : decode cX5_breakWord 14 = .ok (.getfield 97, 3) := by decide +kernel
theorem dX5_breakWord_17 : decode cX5_breakWord 17 = .ok (.iconst 2, 1) := by decide +kernel
theorem dX5_breakWord_18 : decode cX5_breakWord 18 = .ok (.if_icmp .eq 7, 3) := by decide +kernel
theorem dX5_breakWord_21 : decode cX5_breakWord 21 = .ok (.iconst 1, 1) := by decide +kernel
theorem dX5_breakWord_22 : decode cX5_breakWord 22 = .ok (.goto 4, 3) := by decide +kernel
theorem dX5_breakWord_25 : decode cX5_breakWord 25 = .ok (.iconst 0, 1) := by decide +kernel
theorem dX5_breakWord_26 : decode cX5_breakWord 26 = .ok (.invokestatic 70, 3) := by decide +kernel
theorem dX5_breakWord_29 : decode cX5_breakWord 29 = .ok (.aload_n 0, 1) := by decide +kernel
theorem dX5_breakWord_30 : decode cX5_breakWord 30 = .ok (.getfield 11, 3) := by decide +kernel
theorem dX5_breakWord_33 : decode cX5_breakWord 33 = .ok (.iload_n 1, 1) := by decide +kernel
theorem dX5_breakWord_34 : decode cX5_breakWord 34 = .ok (.aaload, 1) := by decide +kernel
theorem dX5_breakWord_35 : decode cX5_breakWord 35 = .ok (.iconst 2, 1) := by decide +kernel
theorem dX5_breakWord_36 : decode cX5_breakWord 36 = .ok (.putfield 97, 3) := by decide +kernel
theorem dX5_breakWord_39 : decode cX5_breakWord 39 = .ok (.aload_n 0, 1) := by decide +kernel
theorem dX5_breakWord_40 : decode cX5_breakWord 40 = .ok (.iload_n 1, 1) := by decide +kernel
theorem dX5_breakWord_41 : decode cX5_breakWord 41 = .ok (.invokevirtual 100, 3) := by decide +kernel
theorem dX5_breakWord_44 : decode cX5_breakWord 44 = .ok (.istore_n 2, 1) := by decide +kernel
theorem dX5_breakWord_45 : decode cX5_breakWord 45 = .ok (.aload_n 0, 1) := by decide +kernel
theorem dX5_breakWord_46 : decode cX5_breakWord 46 = .ok (.iload_n 1, 1) := by decide +kernel
theorem dX5_breakWord_47 : decode cX5_breakWord 47 = .ok (.invokevirtual 104, 3) := by decide +kernel
theorem dX5_breakWord_50 : decode cX5_breakWord 50 = .ok (.iload_n 2, 1) := by decide +kernel
theorem dX5_breakWord_51 : decode cX5_breakWord 51 = .ok (.ireturn, 1) := by decide +kernel
theorem dX5_raid_0 : decode cX5_raid 0 = .ok (.iload_n 1, 1) := by decide +kernel
theorem dX5_raid_1 : decode cX5_raid 1 = .ok (.aload_n 0, 1) := by decide +kernel
theorem dX5_raid_2 : decode cX5_raid 2 = .ok (.getfield 66, 3) := by decide +kernel
theorem dX5_raid_5 : decode cX5_raid 5 = .ok (.invokestatic 58, 3) := by decide +kernel
theorem dX5_raid_8 : decode cX5_raid 8 = .ok (.aload_n 0, 1) := by decide +kernel
theorem dX5_raid_9 : decode cX5_raid 9 = .ok (.getfield 11, 3) := by decide +kernel
theorem dX5_raid_12 : decode cX5_raid 12 = .ok (.iload_n 1, 1) := by decide +kernel
theorem dX5_raid_13 : decode cX5_raid 13 = .ok (.aaload, 1) := by decide +kernel
theorem dX5_raid_14 : decode cX5_raid 14 = .ok (.invokevirtual 108, 3) := by decide +kernel
theorem dX5_raid_17 : decode cX5_raid 17 = .ok (.invokestatic 70, 3) := by decide +kernel
theorem dX5_raid_20 : decode cX5_raid 20 = .ok (.aload_n 0, 1) := by decide +kernel
theorem dX5_raid_21 : decode cX5_raid 21 = .ok (.getfield 11, 3) := by decide +kernel
theorem dX5_raid_24 : decode cX5_raid 24 = .ok (.iload_n 1, 1) := by decide +kernel
theorem dX5_raid_25 : decode cX5_raid 25 = .ok (.aaload, 1) := by decide +kernel
theorem dX5_raid_26 : decode cX5_raid 26 = .ok (.astore_n 2, 1) := by decide +kernel
theorem dX5_raid_27 : decode cX5_raid 27 = .ok (.aload_n 2, 1) := by decide +kernel
theorem dX5_raid_28 : decode cX5_raid 28 = .ok (.getfield 77, 3) := by decide +kernel
theorem dX5_raid_31 : decode cX5_raid 31 = .ok (.lstore_n 3, 1) := by decide +kernel
theorem dX5_raid_32 : decode cX5_raid 32 = .ok (.aload_n 2, 1) := by decide +kernel
theorem dX5_raid_33 : decode cX5_raid 33 = .ok (.lconst 0, 1) := by decide +kernel
theorem dX5_raid_34 : decode cX5_raid 34 = .ok (.putfield 77, 3) := by decide +kernel
theorem dX5_raid_37 : decode cX5_raid 37 = .ok (.aload_n 2, 1) := by decide +kernel
theorem dX5_raid_38 : decode cX5_raid 38 = .ok (.iconst 1, 1) := by decide +kernel
theorem dX5_raid_39 : decode cX5_raid 39 = .ok (.putfield 97, 3) := by decide +kernel
theorem dX5_raid_42 : decode cX5_raid 42 = .ok (.aload_n 2, 1) := by decide +kernel
theorem dX5_raid_43 : decode cX5_raid 43 = .ok (.aload_n 0, 1) := by decide +kernel
theorem dX5_raid_44 : decode cX5_raid 44 = .ok (.getfield 112, 3) := by decide +kernel
theorem dX5_raid_47 : decode cX5_raid 47 = .ok (.sipush 720, 3) := by decide +kernel
theorem dX5_raid_50 : decode cX5_raid 50 = .ok (.iadd, 1) := by decide +kernel
theorem dX5_raid_51 : decode cX5_raid 51 = .ok (.putfield 115, 3) := by decide +kernel
theorem dX5_raid_54 : decode cX5_raid 54 = .ok (.aload_n 2, 1) := by decide +kernel
theorem dX5_raid_55 : decode cX5_raid 55 = .ok (.iconst 1, 1) := by decide +kernel
theorem dX5_raid_56 : decode cX5_raid 56 = .ok (.putfield 118, 3) := by decide +kernel
theorem dX5_raid_59 : decode cX5_raid 59 = .ok (.aload_n 0, 1) := by decide +kernel
theorem dX5_raid_60 : decode cX5_raid 60 = .ok (.dup, 1) := by decide +kernel
theorem dX5_raid_61 : decode cX5_raid 61 = .ok (.getfield 121, 3) := by decide +kernel
theorem dX5_raid_64 : decode cX5_raid 64 = .ok (.lload_n 3, 1) := by decide +kernel
theorem dX5_raid_65 : decode cX5_raid 65 = .ok (.ladd, 1) := by decide +kernel
theorem dX5_raid_66 : decode cX5_raid 66 = .ok (.putfield 121, 3) := by decide +kernel
theorem dX5_raid_69 : decode cX5_raid 69 = .ok (.aload_n 0, 1) := by decide +kernel
theorem dX5_raid_70 : decode cX5_raid 70 = .ok (.iload_n 1, 1) := by decide +kernel
theorem dX5_raid_71 : decode cX5_raid 71 = .ok (.invokevirtual 104, 3) := by decide +kernel
theorem dX5_raid_74 : decode cX5_raid 74 = .ok (.lload_n 3, 1) := by decide +kernel
theorem dX5_raid_75 : decode cX5_raid 75 = .ok (.l2i, 1) := by decide +kernel
theorem dX5_raid_76 : decode cX5_raid 76 = .ok (.ireturn, 1) := by decide +kernel
theorem dX5_order_0 : decode cX5_order 0 = .ok (.iload 4, 2) := by decide +kernel
theorem dX5_order_2 : decode cX5_order 2 = .ok (.bipush 20, 2) := by decide +kernel
theorem dX5_order_4 : decode cX5_order 4 = .ok (.invokestatic 58, 3) := by decide +kernel
theorem dX5_order_7 : decode cX5_order 7 = .ok (.aload_n 0, 1) := by decide +kernel
theorem dX5_order_8 : decode cX5_order 8 = .ok (.iload_n 1, 1) := by decide +kernel
theorem dX5_order_9 : decode cX5_order 9 = .ok (.iload_n 2, 1) := by decide +kernel
theorem dX5_order_10 : decode cX5_order 10 = .ok (.invokevirtual 84, 3) := by decide +kernel
theorem dX5_order_13 : decode cX5_order 13 = .ok (.iload_n 3, 1) := by decide +kernel
theorem dX5_order_14 : decode cX5_order 14 = .ok (.iconst 1, 1) := by decide +kernel
theorem dX5_order_15 : decode cX5_order 15 = .ok (.ldc 50, 2) := by decide +kernel
theorem dX5_order_17 : decode cX5_order 17 = .ok (.invokestatic 62, 3) := by decide +kernel
theorem dX5_order_20 : decode cX5_order 20 = .ok (.iload 5, 2) := by decide +kernel
theorem dX5_order_22 : decode cX5_order 22 = .ok (.iconst 0, 1) := by decide +kernel
theorem dX5_order_23 : decode cX5_order 23 = .ok (.sipush 9999, 3) := by decide +kernel
theorem dX5_order_26 : decode cX5_order 26 = .ok (.invokestatic 62, 3) := by decide +kernel
theorem dX5_order_29 : decode cX5_order 29 = .ok (.aload_n 0, 1) := by decide +kernel
theorem dX5_order_30 : decode cX5_order 30 = .ok (.getfield 124, 3) := by decide +kernel
theorem dX5_order_33 : decode cX5_order 33 = .ok (.bipush 40, 2) := by decide +kernel
theorem dX5_order_35 : decode cX5_order 35 = .ok (.if_icmp .ge 7, 3) := by decide +kernel
theorem dX5_order_38 : decode cX5_order 38 = .ok (.iconst 1, 1) := by decide +kernel
theorem dX5_order_39 : decode cX5_order 39 = .ok (.goto 4, 3) := by decide +kernel
theorem dX5_order_42 : decode cX5_order 42 = .ok (.iconst 0, 1) := by decide +kernel
theorem dX5_order_43 : decode cX5_order 43 = .ok (.invokestatic 70, 3) := by decide +kernel
theorem dX5_order_46 : decode cX5_order 46 = .ok (.aload_n 0, 1) := by decide +kernel
theorem dX5_order_47 : decode cX5_order 47 = .ok (.getfield 54, 3) := by decide +kernel
theorem dX5_order_50 : decode cX5_order 50 = .ok (.iload 4, 2) := by decide +kernel
theorem dX5_order_52 : decode cX5_order 52 = .ok (.baload, 1) := by decide +kernel
theorem dX5_order_53 : decode cX5_order 53 = .ok (.ifCond .ne 7, 3) := by decide +kernel
theorem dX5_order_56 : decode cX5_order 56 = .ok (.iconst 1, 1) := by decide +kernel
theorem dX5_order_57 : decode cX5_order 57 = .ok (.goto 4, 3) := by decide +kernel
theorem dX5_order_60 : decode cX5_order 60 = .ok (.iconst 0, 1) := by decide +kernel
theorem dX5_order_61 : decode cX5_order 61 = .ok (.invokestatic 70, 3) := by decide +kernel
theorem dX5_order_64 : decode cX5_order 64 = .ok (.aload_n 0, 1) := by decide +kernel
theorem dX5_order_65 : decode cX5_order 65 = .ok (.iload_n 1, 1) := by decide +kernel
theorem dX5_order_66 : decode cX5_order 66 = .ok (.iload_n 2, 1) := by decide +kernel
theorem dX5_order_67 : decode cX5_order 67 = .ok (.iload_n 3, 1) := by decide +kernel
theorem dX5_order_68 : decode cX5_order 68 = .ok (.invokevirtual 127, 3) := by decide +kernel
theorem dX5_order_71 : decode cX5_order 71 = .ok (.invokestatic 70, 3) := by decide +kernel
theorem dX5_order_74 : decode cX5_order 74 = .ok (.aload_n 0, 1) := by decide +kernel
theorem dX5_order_75 : decode cX5_order 75 = .ok (.getfield 18, 3) := by decide +kernel
theorem dX5_order_78 : decode cX5_order 78 = .ok (.aload_n 0, 1) := by decide +kernel
theorem dX5_order_79 : decode cX5_order 79 = .ok (.getfield 124, 3) := by decide +kernel
theorem dX5_order_82 : decode cX5_order 82 = .ok (.aaload, 1) := by decide +kernel
theorem dX5_order_83 : decode cX5_order 83 = .ok (.astore 6, 2) := by decide +kernel
theorem dX5_order_85 : decode cX5_order 85 = .ok (.aload 6, 2) := by decide +kernel
theorem dX5_order_87 : decode cX5_order 87 = .ok (.iload_n 3, 1) := by decide +kernel
theorem dX5_order_88 : decode cX5_order 88 = .ok (.putfield 131, 3) := by decide +kernel
theorem dX5_order_91 : decode cX5_order 91 = .ok (.aload 6, 2) := by decide +kernel
theorem dX5_order_93 : decode cX5_order 93 = .ok (.iload 5, 2) := by decide +kernel
theorem dX5_order_95 : decode cX5_order 95 = .ok (.putfield 134, 3) := by decide +kernel
theorem dX5_order_98 : decode cX5_order 98 = .ok (.aload 6, 2) := by decide +kernel
theorem dX5_order_100 : decode cX5_order 100 = .ok (.aload_n 0, 1) := by decide +kernel
theorem dX5_order_101 : decode cX5_order 101 = .ok (.getfield 112, 3) := by decide +kernel
theorem dX5_order_104 : decode cX5_order 104 = .ok (.putfield 137, 3) := by decide +kernel
theorem dX5_order_107 : decode cX5_order 107 = .ok (.aload 6, 2) := by decide +kernel
theorem dX5_order_109 : decode cX5_order 109 = .ok (.iconst 0, 1) := by decide +kernel
theorem dX5_order_110 : decode cX5_order 110 = .ok (.putfield 140, 3) := by decide +kernel
theorem dX5_order_113 : decode cX5_order 113 = .ok (.aload 6, 2) := by decide +kernel
theorem dX5_order_115 : decode cX5_order 115 = .ok (.iload_n 3, 1) := by decide +kernel
theorem dX5_order_116 : decode cX5_order 116 = .ok (.aload_n 0, 1) := by decide +kernel
theorem dX5_order_117 : decode cX5_order 117 = .ok (.getfield 42, 3) := by decide +kernel
theorem dX5_order_120 : decode cX5_order 120 = .ok (.invokevirtual 141, 3) := by decide +kernel
theorem dX5_order_123 : decode cX5_order 123 = .ok (.iadd, 1) := by decide +kernel
theorem dX5_order_124 : decode cX5_order 124 = .ok (.putfield 145, 3) := by decide +kernel
theorem dX5_order_127 : decode cX5_order 127 = .ok (.aload 6, 2) := by decide +kernel
theorem dX5_order_129 : decode cX5_order 129 = .ok (.aload_n 0, 1) := by decide +kernel
theorem dX5_order_130 : decode cX5_order 130 = .ok (.getfield 42, 3) := by decide +kernel
theorem dX5_order_133 : decode cX5_order 133 = .ok (.iconst 0, 1) := by decide +kernel
theorem dX5_order_134 : decode cX5_order 134 = .ok (.invokevirtual 148, 3) := by decide +kernel
theorem dX5_order_137 : decode cX5_order 137 = .ok (.aload_n 0, 1) := by decide +kernel
theorem dX5_order_138 : decode cX5_order 138 = .ok (.getfield 11, 3) := by decide +kernel
theorem dX5_order_141 : decode cX5_order 141 = .ok (.iload_n 1, 1) := by decide +kernel
theorem dX5_order_142 : decode cX5_order 142 = .ok (.aaload, 1) := by decide +kernel
theorem dX5_order_143 : decode cX5_order 143 = .ok (.dup, 1) := by decide +kernel
theorem dX5_order_144 : decode cX5_order 144 = .ok (.getfield 77, 3) := by decide +kernel
theorem dX5_order_147 : decode cX5_order 147 = .ok (.aload 6, 2) := by decide +kernel
theorem dX5_order_149 : decode cX5_order 149 = .ok (.getfield 145, 3) := by decide +kernel
theorem dX5_order_152 : decode cX5_order 152 = .ok (.i2l, 1) := by decide +kernel
theorem dX5_order_153 : decode cX5_order 153 = .ok (.ladd, 1) := by decide +kernel
theorem dX5_order_154 : decode cX5_order 154 = .ok (.putfield 77, 3) := by decide +kernel
theorem dX5_order_157 : decode cX5_order 157 = .ok (.aload_n 0, 1) := by decide +kernel
theorem dX5_order_158 : decode cX5_order 158 = .ok (.aload 6, 2) := by decide +kernel
theorem dX5_order_160 : decode cX5_order 160 = .ok (.invokevirtual 152, 3) := by decide +kernel
theorem dX5_order_163 : decode cX5_order 163 = .ok (.aload_n 0, 1) := by decide +kernel
theorem dX5_order_164 : decode cX5_order 164 = .ok (.aload_n 0, 1) := by decide +kernel
theorem dX5_order_165 : decode cX5_order 165 = .ok (.getfield 11, 3) := by decide +kernel
theorem dX5_order_168 : decode cX5_order 168 = .ok (.iload_n 1, 1) := by decide +kernel
theorem dX5_order_169 : decode cX5_order 169 = .ok (.aaload, 1) := by decide +kernel
theorem dX5_order_170 : decode cX5_order 170 = .ok (.getfield 74, 3) := by decide +kernel
theorem dX5_order_173 : decode cX5_order 173 = .ok (.iload_n 3, 1) := by decide +kernel
theorem dX5_order_174 : decode cX5_order 174 = .ok (.invokevirtual 156, 3) := by decide +kernel
theorem dX5_order_177 : decode cX5_order 177 = .ok (.aload_n 0, 1) := by decide +kernel
theorem dX5_order_178 : decode cX5_order 178 = .ok (.dup, 1) := by decide +kernel
theorem dX5_order_179 : decode cX5_order 179 = .ok (.getfield 124, 3) := by decide +kernel
theorem dX5_order_182 : decode cX5_order 182 = .ok (.iconst 1, 1) := by decide +kernel
theorem dX5_order_183 : decode cX5_order 183 = .ok (.iadd, 1) := by decide +kernel
theorem dX5_order_184 : decode cX5_order 184 = .ok (.putfield 124, 3) := by decide +kernel
theorem dX5_order_187 : decode cX5_order 187 = .ok (.aload_n 0, 1) := by decide +kernel
theorem dX5_order_188 : decode cX5_order 188 = .ok (.getfield 124, 3) := by decide +kernel
theorem dX5_order_191 : decode cX5_order 191 = .ok (.iconst 1, 1) := by decide +kernel
theorem dX5_order_192 : decode cX5_order 192 = .ok (.isub, 1) := by decide +kernel
theorem dX5_order_193 : decode cX5_order 193 = .ok (.ireturn, 1) := by decide +kernel
theorem dX5_fetch_0 : decode cX5_fetch 0 = .ok (.iload_n 1, 1) := by decide +kernel
theorem dX5_fetch_1 : decode cX5_fetch 1 = .ok (.aload_n 0, 1) := by decide +kernel
theorem dX5_fetch_2 : decode cX5_fetch 2 = .ok (.getfield 124, 3) := by decide +kernel
theorem dX5_fetch_5 : decode cX5_fetch 5 = .ok (.invokestatic 58, 3) := by decide +kernel
theorem dX5_fetch_8 : decode cX5_fetch 8 = .ok (.iload_n 2, 1) := by decide +kernel
theorem dX5_fetch_9 : decode cX5_fetch 9 = .ok (.iconst 0, 1) := by decide +kernel
theorem dX5_fetch_10 : decode cX5_fetch 10 = .ok (.sipush 9999, 3) := by decide +kernel
theorem dX5_fetch_13 : decode cX5_fetch 13 = .ok (.invokestatic 62, 3) := by decide +kernel
theorem dX5_fetch_16 : decode cX5_fetch 16 = .ok (.aload_n 0, 1) := by decide +kernel
theorem dX5_fetch_17 : decode cX5_fetch 17 = .ok (.getfield 18, 3) := by decide +kernel
theorem dX5_fetch_20 : decode cX5_fetch 20 = .ok (.iload_n 1, 1) := by decide +kernel
theorem dX5_fetch_21 : decode cX5_fetch 21 = .ok (.aaload, 1) := by decide +kernel
theorem dX5_fetch_22 : decode cX5_fetch 22 = .ok (.astore_n 3, 1) := by decide +kernel
theorem dX5_fetch_23 : decode cX5_fetch 23 = .ok (.aload_n 0, 1) := by decide +kernel
theorem dX5_fetch_24 : decode cX5_fetch 24 = .ok (.getfield 11, 3) := by decide +kernel
theorem dX5_fetch_27 : decode cX5_fetch 27 = .ok (.aload_n 3, 1) := by decide +kernel
theorem dX5_fetch_28 : decode cX5_fetch 28 = .ok (.invokevirtual 159, 3) := by decide +kernel
theorem dX5_fetch_31 : decode cX5_fetch 31 = .ok (.aaload, 1) := by decide +kernel
theorem dX5_fetch_32 : decode cX5_fetch 32 = .ok (.astore 4, 2) := by decide +kernel
theorem dX5_fetch_34 : decode cX5_fetch 34 = .ok (.aload_n 3, 1) := by decide +kernel
theorem dX5_fetch_35 : decode cX5_fetch 35 = .ok (.getfield 140, 3) := by decide +kernel
theorem dX5_fetch_38 : decode cX5_fetch 38 = .ok (.iconst 1, 1) := by decide +kernel
theorem dX5_fetch_39 : decode cX5_fetch 39 = .ok (.if_icmp .ne 7, 3) := by decide +kernel
theorem dX5_fetch_42 : decode cX5_fetch 42 = .ok (.iconst 1, 1) := by decide +kernel
theorem dX5_fetch_43 : decode cX5_fetch 43 = .ok (.goto 4, 3) := by decide +kernel
theorem dX5_fetch_46 : decode cX5_fetch 46 = .ok (.iconst 0, 1) := by decide +kernel
theorem dX5_fetch_47 : decode cX5_fetch 47 = .ok (.invokestatic 70, 3) := by decide +kernel
theorem dX5_fetch_50 : decode cX5_fetch 50 = .ok (.aload 4, 2) := by decide +kernel
theorem dX5_fetch_52 : decode cX5_fetch 52 = .ok (.invokevirtual 108, 3) := by decide +kernel
theorem dX5_fetch_55 : decode cX5_fetch 55 = .ok (.ifCond .eq 21, 3) := by decide +kernel
theorem dX5_fetch_58 : decode cX5_fetch 58 = .ok (.aload 4, 2) := by decide +kernel
theorem dX5_fetch_60 : decode cX5_fetch 60 = .ok (.getfield 77, 3) := by decide +kernel
theorem dX5_fetch_63 : decode cX5_fetch 63 = .ok (.aload_n 3, 1) := by decide +kernel
theorem dX5_fetch_64 : decode cX5_fetch 64 = .ok (.getfield 131, 3) := by decide +kernel
theorem dX5_fetch_67 : decode cX5_fetch 67 = .ok (.i2l, 1) := by decide +kernel
theorem dX5_fetch_68 : decode cX5_fetch 68 = .ok (.lcmp, 1) := by decide +kernel
theorem dX5_fetch_69 : decode cX5_fetch 69 = .ok (.ifCond .lt 7, 3) := by decide +kernel
theorem dX5_fetch_72 : decode cX5_fetch 72 = .ok (.iconst 1, 1) := by decide +kernel
theorem dX5_fetch_73 : decode cX5_fetch 73 = .ok (.goto 4, 3) := by decide +kernel
theorem dX5_fetch_76 : decode cX5_fetch 76 = .ok (.iconst 0, 1) := by decide +kernel
theorem dX5_fetch_77 : decode cX5_fetch 77 = .ok (.invokestatic 70, 3) := by decide +kernel
theorem dX5_fetch_80 : decode cX5_fetch 80 = .ok (.iload_n 2, 1) := by decide +kernel
theorem dX5_fetch_81 : decode cX5_fetch 81 = .ok (.aload_n 3, 1) := by decide +kernel
theorem dX5_fetch_82 : decode cX5_fetch 82 = .ok (.getfield 134, 3) := by decide +kernel
theorem dX5_fetch_85 : decode cX5_fetch 85 = .ok (.if_icmp .ne 25, 3) := by decide +kernel
theorem dX5_fetch_88 : decode cX5_fetch 88 = .ok (.aload 4, 2) := by decide +kernel
theorem dX5_fetch_90 : decode cX5_fetch 90 = .ok (.dup, 1) := by decide +kernel
theorem dX5_fetch_91 : decode cX5_fetch 91 = .ok (.getfield 77, 3) := by decide +kernel
theorem dX5_fetch_94 : decode cX5_fetch 94 = .ok (.aload_n 3, 1) := by decide +kernel
theorem dX5_fetch_95 : decode cX5_fetch 95 = .ok (.getfield 131, 3) := by decide +kernel
theorem dX5_fetch_98 : decode cX5_fetch 98 = .ok (.i2l, 1) := by decide +kernel
theorem dX5_fetch_99 : decode cX5_fetch 99 = .ok (.lsub, 1) := by decide +kernel
theorem dX5_fetch_100 : decode cX5_fetch 100 = .ok (.putfield 77, 3) := by decide +kernel
theorem dX5_fetch_103 : decode cX5_fetch 103 = .ok (.aload_n 3, 1) := by decide +kernel
theorem dX5_fetch_104 : decode cX5_fetch 104 = .ok (.iconst 2, 1) := by decide +kernel
theorem dX5_fetch_105 : decode cX5_fetch 105 = .ok (.putfield 140, 3) := by decide +kernel
theorem dX5_fetch_108 : decode cX5_fetch 108 = .ok (.iconst 2, 1) := by decide +kernel
theorem dX5_fetch_109 : decode cX5_fetch 109 = .ok (.ireturn, 1) := by decide +kernel
theorem dX5_fetch_110 : decode cX5_fetch 110 = .ok (.aload_n 3, 1) := by decide +kernel
theorem dX5_fetch_111 : decode cX5_fetch 111 = .ok (.dup, 1) := by decide +kernel
theorem dX5_fetch_112 : decode cX5_fetch 112 = .ok (.getfield 162, 3) := by decide +kernel
theorem dX5_fetch_115 : decode cX5_fetch 115 = .ok (.iconst 1, 1) := by decide +kernel
theorem dX5_fetch_116 : decode cX5_fetch 116 = .ok (.iadd, 1) := by decide +kernel
theorem dX5_fetch_117 : decode cX5_fetch 117 = .ok (.putfield 162, 3) := by decide +kernel
theorem dX5_fetch_120 : decode cX5_fetch 120 = .ok (.aload_n 3, 1) := by decide +kernel
theorem dX5_fetch_121 : decode cX5_fetch 121 = .ok (.getfield 162, 3) := by decide +kernel
theorem dX5_fetch_124 : decode cX5_fetch 124 = .ok (.iconst 3, 1) := by decide +kernel
theorem dX5_fetch_125 : decode cX5_fetch 125 = .ok (.if_icmp .lt 8, 3) := by decide +kernel
theorem dX5_fetch_128 : decode cX5_fetch 128 = .ok (.aload_n 0, 1) := by decide +kernel
theorem dX5_fetch_129 : decode cX5_fetch 129 = .ok (.aload_n 3, 1) := by decide +kernel
theorem dX5_fetch_130 : decode cX5_fetch 130 = .ok (.invokevirtual 165, 3) := by decide +kernel
theorem dX5_fetch_133 : decode cX5_fetch 133 = .ok (.aload_n 3, 1) := by decide +kernel
theorem dX5_fetch_134 : decode cX5_fetch 134 = .ok (.getfield 140, 3) := by decide +kernel
theorem dX5_fetch_137 : decode cX5_fetch 137 = .ok (.ireturn, 1) := by decide +kernel
theorem dX5_pass_0 : decode cX5_pass 0 = .ok (.iload_n 1, 1) := by decide +kernel
theorem dX5_pass_1 : decode cX5_pass 1 = .ok (.iconst 1, 1) := by decide +kernel
theorem dX5_pass_2 : decode cX5_pass 2 = .ok (.sipush 500, 3) := by decide +kernel
theorem dX5_pass_5 : decode cX5_pass 5 = .ok (.invokestatic 62, 3) := by decide +kernel
theorem dX5_pass_8 : decode cX5_pass 8 = .ok (.iconst 0, 1) := by decide +kernel
theorem dX5_pass_9 : decode cX5_pass 9 = .ok (.istore_n 2, 1) := by decide +kernel
theorem dX5_pass_10 : decode cX5_pass 10 = .ok (.iload_n 2, 1) := by decide +kernel
theorem dX5_pass_11 : decode cX5_pass 11 = .ok (.iload_n 1, 1) := by decide +kernel
theorem dX5_pass_12 : decode cX5_pass 12 = .ok (.if_icmp .ge 13, 3) := by decide +kernel
theorem dX5_pass_15 : decode cX5_pass 15 = .ok (.aload_n 0, 1) := by decide +kernel
theorem dX5_pass_16 : decode cX5_pass 16 = .ok (.invokevirtual 168, 3) := by decide +kernel
theorem dX5_pass_19 : decode cX5_pass 19 = .ok (.iinc 2 1, 3) := by decide +kernel
theorem dX5_pass_22 : decode cX5_pass 22 = .ok (.goto (-12), 3) := by decide +kernel
theorem dX5_pass_25 : decode cX5_pass 25 = .ok (.aload_n 0, 1) := by decide +kernel
theorem dX5_pass_26 : decode cX5_pass 26 = .ok (.getfield 112, 3) := by decide +kernel
theorem dX5_pass_29 : decode cX5_pass 29 = .ok (.ireturn, 1) := by decide +kernel
theorem dX5_pay_0 : decode cX5_pay 0 = .ok (.aload_n 0, 1) := by decide +kernel
theorem dX5_pay_1 : decode cX5_pay 1 = .ok (.iload_n 1, 1) := by decide +kernel
theorem dX5_pay_2 : decode cX5_pay 2 = .ok (.iload_n 2, 1) := by decide +kernel
theorem dX5_pay_3 : decode cX5_pay 3 = .ok (.invokevirtual 84, 3) := by decide +kernel
theorem dX5_pay_6 : decode cX5_pay 6 = .ok (.iload_n 3, 1) := by decide +kernel
theorem dX5_pay_7 : decode cX5_pay 7 = .ok (.iconst 1, 1) := by decide +kernel
theorem dX5_pay_8 : decode cX5_pay 8 = .ok (.ldc 50, 2) := by decide +kernel
theorem dX5_pay_10 : decode cX5_pay 10 = .ok (.invokestatic 62, 3) := by decide +kernel
theorem dX5_pay_13 : decode cX5_pay 13 = .ok (.aload_n 0, 1) := by decide +kernel
theorem dX5_pay_14 : decode cX5_pay 14 = .ok (.getfield 11, 3) := by decide +kernel
theorem dX5_pay_17 : decode cX5_pay 17 = .ok (.iload_n 1, 1) := by decide +kernel
theorem dX5_pay_18 : decode cX5_pay 18 = .ok (.aaload, 1) := by decide +kernel
theorem dX5_pay_19 : decode cX5_pay 19 = .ok (.invokevirtual 108, 3) := by decide +kernel
theorem dX5_pay_22 : decode cX5_pay 22 = .ok (.ifCond .eq 19, 3) := by decide +kernel
theorem dX5_pay_25 : decode cX5_pay 25 = .ok (.aload_n 0, 1) := by decide +kernel
theorem dX5_pay_26 : decode cX5_pay 26 = .ok (.getfield 11, 3) := by decide +kernel
theorem dX5_pay_29 : decode cX5_pay 29 = .ok (.iload_n 2, 1) := by decide +kernel
theorem dX5_pay_30 : decode cX5_pay 30 = .ok (.aaload, 1) := by decide +kernel
theorem dX5_pay_31 : decode cX5_pay 31 = .ok (.invokevirtual 108, 3) := by decide +kernel
theorem dX5_pay_34 : decode cX5_pay 34 = .ok (.ifCond .eq 7, 3) := by decide +kernel
theorem dX5_pay_37 : decode cX5_pay 37 = .ok (.iconst 1, 1) := by decide +kernel
theorem dX5_pay_38 : decode cX5_pay 38 = .ok (.goto 4, 3) := by decide +kernel
theorem dX5_pay_41 : decode cX5_pay 41 = .ok (.iconst 0, 1) := by decide +kernel
theorem dX5_pay_42 : decode cX5_pay 42 = .ok (.invokestatic 70, 3) := by decide +kernel
theorem dX5_pay_45 : decode cX5_pay 45 = .ok (.aload_n 0, 1) := by decide +kernel
theorem dX5_pay_46 : decode cX5_pay 46 = .ok (.getfield 33, 3) := by decide +kernel
theorem dX5_pay_49 : decode cX5_pay 49 = .ok (.getfield 171, 3) := by decide +kernel
theorem dX5_pay_52 : decode cX5_pay 52 = .ok (.iload_n 1, 1) := by decide +kernel
theorem dX5_pay_53 : decode cX5_pay 53 = .ok (.aaload, 1) := by decide +kernel
theorem dX5_pay_54 : decode cX5_pay 54 = .ok (.iload_n 2, 1) := by decide +kernel
theorem dX5_pay_55 : decode cX5_pay 55 = .ok (.laload, 1) := by decide +kernel
theorem dX5_pay_56 : decode cX5_pay 56 = .ok (.iload_n 3, 1) := by decide +kernel
theorem dX5_pay_57 : decode cX5_pay 57 = .ok (.i2l, 1) := by decide +kernel
theorem dX5_pay_58 : decode cX5_pay 58 = .ok (.lcmp, 1) := by decide +kernel
theorem dX5_pay_59 : decode cX5_pay 59 = .ok (.ifCond .lt 7, 3) := by decide +kernel
theorem dX5_pay_62 : decode cX5_pay 62 = .ok (.iconst 1, 1) := by decide +kernel
theorem dX5_pay_63 : decode cX5_pay 63 = .ok (.goto 4, 3) := by decide +kernel
theorem dX5_pay_66 : decode cX5_pay 66 = .ok (.iconst 0, 1) := by decide +kernel
theorem dX5_pay_67 : decode cX5_pay 67 = .ok (.invokestatic 70, 3) := by decide +kernel
theorem dX5_pay_70 : decode cX5_pay 70 = .ok (.aload_n 0, 1) := by decide +kernel
theorem dX5_pay_71 : decode cX5_pay 71 = .ok (.getfield 11, 3) := by decide +kernel
theorem dX5_pay_74 : decode cX5_pay 74 = .ok (.iload_n 1, 1) := by decide +kernel
theorem dX5_pay_75 : decode cX5_pay 75 = .ok (.aaload, 1) := by decide +kernel
theorem dX5_pay_76 : decode cX5_pay 76 = .ok (.getfield 77, 3) := by decide +kernel
theorem dX5_pay_79 : decode cX5_pay 79 = .ok (.iload_n 3, 1) := by decide +kernel
theorem dX5_pay_80 : decode cX5_pay 80 = .ok (.i2l, 1) := by decide +kernel
theorem dX5_pay_81 : decode cX5_pay 81 = .ok (.lcmp, 1) := by decide +kernel
theorem dX5_pay_82 : decode cX5_pay 82 = .ok (.ifCond .lt 7, 3) := by decide +kernel
theorem dX5_pay_85 : decode cX5_pay 85 = .ok (.iconst 1, 1) := by decide +kernel
theorem dX5_pay_86 : decode cX5_pay 86 = .ok (.goto 4, 3) := by decide +kernel
theorem dX5_pay_89 : decode cX5_pay 89 = .ok (.iconst 0, 1) := by decide +kernel
theorem dX5_pay_90 : decode cX5_pay 90 = .ok (.invokestatic 70, 3) := by decide +kernel
theorem dX5_pay_93 : decode cX5_pay 93 = .ok (.aload_n 0, 1) := by decide +kernel
theorem dX5_pay_94 : decode cX5_pay 94 = .ok (.getfield 11, 3) := by decide +kernel
theorem dX5_pay_97 : decode cX5_pay 97 = .ok (.iload_n 1, 1) := by decide +kernel
theorem dX5_pay_98 : decode cX5_pay 98 = .ok (.aaload, 1) := by decide +kernel
theorem dX5_pay_99 : decode cX5_pay 99 = .ok (.dup, 1) := by decide +kernel
theorem dX5_pay_100 : decode cX5_pay 100 = .ok (.getfield 77, 3) := by decide +kernel
theorem dX5_pay_103 : decode cX5_pay 103 = .ok (.iload_n 3, 1) := by decide +kernel
theorem dX5_pay_104 : decode cX5_pay 104 = .ok (.i2l, 1) := by decide +kernel
theorem dX5_pay_105 : decode cX5_pay 105 = .ok (.lsub, 1) := by decide +kernel
theorem dX5_pay_106 : decode cX5_pay 106 = .ok (.putfield 77, 3) := by decide +kernel
theorem dX5_pay_109 : decode cX5_pay 109 = .ok (.aload_n 0, 1) := by decide +kernel
theorem dX5_pay_110 : decode cX5_pay 110 = .ok (.getfield 11, 3) := by decide +kernel
theorem dX5_pay_113 : decode cX5_pay 113 = .ok (.iload_n 2, 1) := by decide +kernel
theorem dX5_pay_114 : decode cX5_pay 114 = .ok (.aaload, 1) := by decide +kernel
theorem dX5_pay_115 : decode cX5_pay 115 = .ok (.dup, 1) := by decide +kernel
theorem dX5_pay_116 : decode cX5_pay 116 = .ok (.getfield 77, 3) := by decide +kernel
theorem dX5_pay_119 : decode cX5_pay 119 = .ok (.iload_n 3, 1) := by decide +kernel
theorem dX5_pay_120 : decode cX5_pay 120 = .ok (.i2l, 1) := by decide +kernel
theorem dX5_pay_121 : decode cX5_pay 121 = .ok (.ladd, 1) := by decide +kernel
theorem dX5_pay_122 : decode cX5_pay 122 = .ok (.putfield 77, 3) := by decide +kernel
theorem dX5_pay_125 : decode cX5_pay 125 = .ok (.aload_n 0, 1) := by decide +kernel
theorem dX5_pay_126 : decode cX5_pay 126 = .ok (.getfield 33, 3) := by decide +kernel
theorem dX5_pay_129 : decode cX5_pay 129 = .ok (.iload_n 1, 1) := by decide +kernel
theorem dX5_pay_130 : decode cX5_pay 130 = .ok (.iload_n 2, 1) := by decide +kernel
theorem dX5_pay_131 : decode cX5_pay 131 = .ok (.iload_n 3, 1) := by decide +kernel
theorem dX5_pay_132 : decode cX5_pay 132 = .ok (.ineg, 1) := by decide +kernel
theorem dX5_pay_133 : decode cX5_pay 133 = .ok (.i2l, 1) := by decide +kernel
theorem dX5_pay_134 : decode cX5_pay 134 = .ok (.invokevirtual 175, 3) := by decide +kernel
theorem dX5_pay_137 : decode cX5_pay 137 = .ok (.aload_n 0, 1) := by decide +kernel
theorem dX5_pay_138 : decode cX5_pay 138 = .ok (.getfield 33, 3) := by decide +kernel
theorem dX5_pay_141 : decode cX5_pay 141 = .ok (.getfield 171, 3) := by decide +kernel
theorem dX5_pay_144 : decode cX5_pay 144 = .ok (.iload_n 1, 1) := by decide +kernel
theorem dX5_pay_145 : decode cX5_pay 145 = .ok (.aaload, 1) := by decide +kernel
theorem dX5_pay_146 : decode cX5_pay 146 = .ok (.iload_n 2, 1) := by decide +kernel
theorem dX5_pay_147 : decode cX5_pay 147 = .ok (.laload, 1) := by decide +kernel
theorem dX5_pay_148 : decode cX5_pay 148 = .ok (.l2i, 1) := by decide +kernel
theorem dX5_pay_149 : decode cX5_pay 149 = .ok (.ireturn, 1) := by decide +kernel
theorem dX5_deliver_0 : decode cX5_deliver 0 = .ok (.aload_n 0, 1) := by decide +kernel
theorem dX5_deliver_1 : decode cX5_deliver 1 = .ok (.iload_n 1, 1) := by decide +kernel
theorem dX5_deliver_2 : decode cX5_deliver 2 = .ok (.iload_n 2, 1) := by decide +kernel
theorem dX5_deliver_3 : decode cX5_deliver 3 = .ok (.invokevirtual 84, 3) := by decide +kernel
theorem dX5_deliver_6 : decode cX5_deliver 6 = .ok (.iload_n 3, 1) := by decide +kernel
theorem dX5_deliver_7 : decode cX5_deliver 7 = .ok (.iconst 1, 1) := by decide +kernel
theorem dX5_deliver_8 : decode cX5_deliver 8 = .ok (.ldc 50, 2) := by decide +kernel
theorem dX5_deliver_10 : decode cX5_deliver 10 = .ok (.invokestatic 62, 3) := by decide +kernel
theorem dX5_deliver_13 : decode cX5_deliver 13 = .ok (.aload_n 0, 1) := by decide +kernel
theorem dX5_deliver_14 : decode cX5_deliver 14 = .ok (.getfield 11, 3) := by decide +kernel
theorem dX5_deliver_17 : decode cX5_deliver 17 = .ok (.iload_n 1, 1) := by decide +kernel
theorem dX5_deliver_18 : decode cX5_deliver 18 = .ok (.aaload, 1) := by decide +kernel
theorem dX5_deliver_19 : decode cX5_deliver 19 = .ok (.getfield 97, 3) := by decide +kernel
theorem dX5_deliver_22 : decode cX5_deliver 22 = .ok (.iconst 2, 1) := by decide +kernel
theorem dX5_deliver_23 : decode cX5_deliver 23 = .ok (.if_icmp .eq 20, 3) := by decide +kernel
theorem dX5_deliver_26 : decode cX5_deliver 26 = .ok (.aload_n 0, 1) := by decide +kernel
theorem dX5_deliver_27 : decode cX5_deliver 27 = .ok (.getfield 11, 3) := by decide +kernel
theorem dX5_deliver_30 : decode cX5_deliver 30 = .ok (.iload_n 2, 1) := by decide +kernel
theorem dX5_deliver_31 : decode cX5_deliver 31 = .ok (.aaload, 1) := by decide +kernel
theorem dX5_deliver_32 : decode cX5_deliver 32 = .ok (.getfield 97, 3) := by decide +kernel
theorem dX5_deliver_35 : decode cX5_deliver 35 = .ok (.iconst 2, 1) := by decide +kernel
theorem dX5_deliver_36 : decode cX5_deliver 36 = .ok (.if_icmp .eq 7, 3) := by decide +kernel
theorem dX5_deliver_39 : decode cX5_deliver 39 = .ok (.iconst 1, 1) := by decide +kernel
theorem dX5_deliver_40 : decode cX5_deliver 40 = .ok (.goto 4, 3) := by decide +kernel
theorem dX5_deliver_43 : decode cX5_deliver 43 = .ok (.iconst 0, 1) := by decide +kernel
theorem dX5_deliver_44 : decode cX5_deliver 44 = .ok (.invokestatic 70, 3) := by decide +kernel
theorem dX5_deliver_47 : decode cX5_deliver 47 = .ok (.aload_n 0, 1) := by decide +kernel
theorem dX5_deliver_48 : decode cX5_deliver 48 = .ok (.getfield 33, 3) := by decide +kernel
theorem dX5_deliver_51 : decode cX5_deliver 51 = .ok (.getfield 171, 3) := by decide +kernel
theorem dX5_deliver_54 : decode cX5_deliver 54 = .ok (.iload_n 1, 1) := by decide +kernel
theorem dX5_deliver_55 : decode cX5_deliver 55 = .ok (.aaload, 1) := by decide +kernel
theorem dX5_deliver_56 : decode cX5_deliver 56 = .ok (.iload_n 2, 1) := by decide +kernel
theorem dX5_deliver_57 : decode cX5_deliver 57 = .ok (.laload, 1) := by decide +kernel
theorem dX5_deliver_58 : decode cX5_deliver 58 = .ok (.iload_n 3, 1) := by decide +kernel
theorem dX5_deliver_59 : decode cX5_deliver 59 = .ok (.i2l, 1) := by decide +kernel
theorem dX5_deliver_60 : decode cX5_deliver 60 = .ok (.lcmp, 1) := by decide +kernel
theorem dX5_deliver_61 : decode cX5_deliver 61 = .ok (.ifCond .lt 7, 3) := by decide +kernel
theorem dX5_deliver_64 : decode cX5_deliver 64 = .ok (.iconst 1, 1) := by decide +kernel
theorem dX5_deliver_65 : decode cX5_deliver 65 = .ok (.goto 4, 3) := by decide +kernel
theorem dX5_deliver_68 : decode cX5_deliver 68 = .ok (.iconst 0, 1) := by decide +kernel
theorem dX5_deliver_69 : decode cX5_deliver 69 = .ok (.invokestatic 70, 3) := by decide +kernel
theorem dX5_deliver_72 : decode cX5_deliver 72 = .ok (.aload_n 0, 1) := by decide +kernel
theorem dX5_deliver_73 : decode cX5_deliver 73 = .ok (.getfield 33, 3) := by decide +kernel
theorem dX5_deliver_76 : decode cX5_deliver 76 = .ok (.iload_n 1, 1) := by decide +kernel
theorem dX5_deliver_77 : decode cX5_deliver 77 = .ok (.iload_n 2, 1) := by decide +kernel
theorem dX5_deliver_78 : decode cX5_deliver 78 = .ok (.iload_n 3, 1) := by decide +kernel
theorem dX5_deliver_79 : decode cX5_deliver 79 = .ok (.ineg, 1) := by decide +kernel
theorem dX5_deliver_80 : decode cX5_deliver 80 = .ok (.i2l, 1) := by decide +kernel
theorem dX5_deliver_81 : decode cX5_deliver 81 = .ok (.invokevirtual 175, 3) := by decide +kernel
theorem dX5_deliver_84 : decode cX5_deliver 84 = .ok (.aload_n 0, 1) := by decide +kernel
theorem dX5_deliver_85 : decode cX5_deliver 85 = .ok (.getfield 33, 3) := by decide +kernel
theorem dX5_deliver_88 : decode cX5_deliver 88 = .ok (.getfield 171, 3) := by decide +kernel
theorem dX5_deliver_91 : decode cX5_deliver 91 = .ok (.iload_n 1, 1) := by decide +kernel
theorem dX5_deliver_92 : decode cX5_deliver 92 = .ok (.aaload, 1) := by decide +kernel
theorem dX5_deliver_93 : decode cX5_deliver 93 = .ok (.iload_n 2, 1) := by decide +kernel
theorem dX5_deliver_94 : decode cX5_deliver 94 = .ok (.laload, 1) := by decide +kernel
theorem dX5_deliver_95 : decode cX5_deliver 95 = .ok (.l2i, 1) := by decide +kernel
theorem dX5_deliver_96 : decode cX5_deliver 96 = .ok (.ireturn, 1) := by decide +kernel
theorem dX5_courier_0 : decode cX5_courier 0 = .ok (.aload_n 0, 1) := by decide +kernel
theorem dX5_courier_1 : decode cX5_courier 1 = .ok (.iload_n 1, 1) := by decide +kernel
theorem dX5_courier_2 : decode cX5_courier 2 = .ok (.iload_n 2, 1) := by decide +kernel
theorem dX5_courier_3 : decode cX5_courier 3 = .ok (.invokevirtual 84, 3) := by decide +kernel
theorem dX5_courier_6 : decode cX5_courier 6 = .ok (.iload_n 3, 1) := by decide +kernel
theorem dX5_courier_7 : decode cX5_courier 7 = .ok (.iconst 1, 1) := by decide +kernel
theorem dX5_courier_8 : decode cX5_courier 8 = .ok (.ldc 50, 2) := by decide +kernel
theorem dX5_courier_10 : decode cX5_courier 10 = .ok (.invokestatic 62, 3) := by decide +kernel
theorem dX5_courier_13 : decode cX5_courier 13 = .ok (.iload 4, 2) := by decide +kernel
theorem dX5_courier_15 : decode cX5_courier 15 = .ok (.iconst 1, 1) := by decide +kernel
theorem dX5_courier_16 : decode cX5_courier 16 = .ok (.sipush 500, 3) := by decide +kernel
theorem dX5_courier_19 : decode cX5_courier 19 = .ok (.invokestatic 62, 3) := by decide +kernel
theorem dX5_courier_22 : decode cX5_courier 22 = .ok (.aload_n 0, 1) := by decide +kernel
theorem dX5_courier_23 : decode cX5_courier 23 = .ok (.getfield 179, 3) := by decide +kernel
theorem dX5_courier_26 : decode cX5_courier 26 = .ok (.bipush 40, 2) := by decide +kernel
theorem dX5_courier_28 : decode cX5_courier 28 = .ok (.if_icmp .ge 7, 3) := by decide +kernel
theorem dX5_courier_31 : decode cX5_courier 31 = .ok (.iconst 1, 1) := by decide +kernel
theorem dX5_courier_32 : decode cX5_courier 32 = .ok (.goto 4, 3) := by decide +kernel
theorem dX5_courier_35 : decode cX5_courier 35 = .ok (.iconst 0, 1) := by decide +kernel
theorem dX5_courier_36 : decode cX5_courier 36 = .ok (.invokestatic 70, 3) := by decide +kernel
theorem dX5_courier_39 : decode cX5_courier 39 = .ok (.aload_n 0, 1) := by decide +kernel
theorem dX5_courier_40 : decode cX5_courier 40 = .ok (.getfield 11, 3) := by decide +kernel
theorem dX5_courier_43 : decode cX5_courier 43 = .ok (.iload_n 1, 1) := by decide +kernel
theorem dX5_courier_44 : decode cX5_courier 44 = .ok (.aaload, 1) := by decide +kernel
theorem dX5_courier_45 : decode cX5_courier 45 = .ok (.invokevirtual 108, 3) := by decide +kernel
theorem dX5_courier_48 : decode cX5_courier 48 = .ok (.ifCond .eq 22, 3) := by decide +kernel
theorem dX5_courier_51 : decode cX5_courier 51 = .ok (.aload_n 0, 1) := by decide +kernel
theorem dX5_courier_52 : decode cX5_courier 52 = .ok (.getfield 11, 3) := by decide +kernel
theorem dX5_courier_55 : decode cX5_courier 55 = .ok (.iload_n 1, 1) := by decide +kernel
theorem dX5_courier_56 : decode cX5_courier 56 = .ok (.aaload, 1) := by decide +kernel
theorem dX5_courier_57 : decode cX5_courier 57 = .ok (.getfield 77, 3) := by decide +kernel
theorem dX5_courier_60 : decode cX5_courier 60 = .ok (.iload_n 3, 1) := by decide +kernel
theorem dX5_courier_61 : decode cX5_courier 61 = .ok (.i2l, 1) := by decide +kernel
theorem dX5_courier_62 : decode cX5_courier 62 = .ok (.lcmp, 1) := by decide +kernel
theorem dX5_courier_63 : decode cX5_courier 63 = .ok (.ifCond .lt 7, 3) := by decide +kernel
theorem dX5_courier_66 : decode cX5_courier 66 = .ok (.iconst 1, 1) := by decide +kernel
theorem dX5_courier_67 : decode cX5_courier 67 = .ok (.goto 4, 3) := by decide +kernel
theorem dX5_courier_70 : decode cX5_courier 70 = .ok (.iconst 0, 1) := by decide +kernel
theorem dX5_courier_71 : decode cX5_courier 71 = .ok (.invokestatic 70, 3) := by decide +kernel
theorem dX5_courier_74 : decode cX5_courier 74 = .ok (.aload_n 0, 1) := by decide +kernel
theorem dX5_courier_75 : decode cX5_courier 75 = .ok (.getfield 25, 3) := by decide +kernel
theorem dX5_courier_78 : decode cX5_courier 78 = .ok (.aload_n 0, 1) := by decide +kernel
theorem dX5_courier_79 : decode cX5_courier 79 = .ok (.getfield 179, 3) := by decide +kernel
theorem dX5_courier_82 : decode cX5_courier 82 = .ok (.aaload, 1) := by decide +kernel
theorem dX5_courier_83 : decode cX5_courier 83 = .ok (.astore 5, 2) := by decide +kernel
theorem dX5_courier_85 : decode cX5_courier 85 = .ok (.aload 5, 2) := by decide +kernel
theorem dX5_courier_87 : decode cX5_courier 87 = .ok (.iload_n 1, 1) := by decide +kernel
theorem dX5_courier_88 : decode cX5_courier 88 = .ok (.putfield 182, 3) := by decide +kernel
theorem dX5_courier_91 : decode cX5_courier 91 = .ok (.aload 5, 2) := by decide +kernel
theorem dX5_courier_93 : decode cX5_courier 93 = .ok (.iload_n 2, 1) := by decide +kernel
theorem dX5_courier_94 : decode cX5_courier 94 = .ok (.putfield 185, 3) := by decide +kernel
theorem dX5_courier_97 : decode cX5_courier 97 = .ok (.aload 5, 2) := by decide +kernel
theorem dX5_courier_99 : decode cX5_courier 99 = .ok (.iload_n 3, 1) := by decide +kernel
theorem dX5_courier_100 : decode cX5_courier 100 = .ok (.putfield 188, 3) := by decide +kernel
theorem dX5_courier_103 : decode cX5_courier 103 = .ok (.aload 5, 2) := by decide +kernel
theorem dX5_courier_105 : decode cX5_courier 105 = .ok (.aload_n 0, 1) := by decide +kernel
theorem dX5_courier_106 : decode cX5_courier 106 = .ok (.getfield 112, 3) := by decide +kernel
theorem dX5_courier_109 : decode cX5_courier 109 = .ok (.iload 4, 2) := by decide +kernel
theorem dX5_courier_111 : decode cX5_courier 111 = .ok (.iadd, 1) := by decide +kernel
theorem dX5_courier_112 : decode cX5_courier 112 = .ok (.putfield 189, 3) := by decide +kernel
theorem dX5_courier_115 : decode cX5_courier 115 = .ok (.aload 5, 2) := by decide +kernel
theorem dX5_courier_117 : decode cX5_courier 117 = .ok (.iconst 1, 1) := by decide +kernel
theorem dX5_courier_118 : decode cX5_courier 118 = .ok (.putfield 192, 3) := by decide +kernel
theorem dX5_courier_121 : decode cX5_courier 121 = .ok (.aload_n 0, 1) := by decide +kernel
theorem dX5_courier_122 : decode cX5_courier 122 = .ok (.getfield 11, 3) := by decide +kernel
theorem dX5_courier_125 : decode cX5_courier 125 = .ok (.iload_n 1, 1) := by decide +kernel
theorem dX5_courier_126 : decode cX5_courier 126 = .ok (.aaload, 1) := by decide +kernel
theorem dX5_courier_127 : decode cX5_courier 127 = .ok (.dup, 1) := by decide +kernel
theorem dX5_courier_128 : decode cX5_courier 128 = .ok (.getfield 77, 3) := by decide +kernel
theorem dX5_courier_131 : decode cX5_courier 131 = .ok (.iload_n 3, 1) := by decide +kernel
theorem dX5_courier_132 : decode cX5_courier 132 = .ok (.i2l, 1) := by decide +kernel
theorem dX5_courier_133 : decode cX5_courier 133 = .ok (.lsub, 1) := by decide +kernel
theorem dX5_courier_134 : decode cX5_courier 134 = .ok (.putfield 77, 3) := by decide +kernel
theorem dX5_courier_137 : decode cX5_courier 137 = .ok (.aload_n 0, 1) := by decide +kernel
theorem dX5_courier_138 : decode cX5_courier 138 = .ok (.dup, 1) := by decide +kernel
theorem dX5_courier_139 : decode cX5_courier 139 = .ok (.getfield 179, 3) := by decide +kernel
theorem dX5_courier_142 : decode cX5_courier 142 = .ok (.iconst 1, 1) := by decide +kernel
theorem dX5_courier_143 : decode cX5_courier 143 = .ok (.iadd, 1) := by decide +kernel
theorem dX5_courier_144 : decode cX5_courier 144 = .ok (.putfield 179, 3) := by decide +kernel
theorem dX5_courier_147 : decode cX5_courier 147 = .ok (.aload_n 0, 1) := by decide +kernel
theorem dX5_courier_148 : decode cX5_courier 148 = .ok (.getfield 179, 3) := by decide +kernel
theorem dX5_courier_151 : decode cX5_courier 151 = .ok (.iconst 1, 1) := by decide +kernel
theorem dX5_courier_152 : decode cX5_courier 152 = .ok (.isub, 1) := by decide +kernel
theorem dX5_courier_153 : decode cX5_courier 153 = .ok (.ireturn, 1) := by decide +kernel
theorem dX5_rob_0 : decode cX5_rob 0 = .ok (.iload_n 1, 1) := by decide +kernel
theorem dX5_rob_1 : decode cX5_rob 1 = .ok (.aload_n 0, 1) := by decide +kernel
theorem dX5_rob_2 : decode cX5_rob 2 = .ok (.getfield 179, 3) := by decide +kernel
theorem dX5_rob_5 : decode cX5_rob 5 = .ok (.invokestatic 58, 3) := by decide +kernel
theorem dX5_rob_8 : decode cX5_rob 8 = .ok (.aload_n 0, 1) := by decide +kernel
theorem dX5_rob_9 : decode cX5_rob 9 = .ok (.getfield 25, 3) := by decide +kernel
theorem dX5_rob_12 : decode cX5_rob 12 = .ok (.iload_n 1, 1) := by decide +kernel
theorem dX5_rob_13 : decode cX5_rob 13 = .ok (.aaload, 1) := by decide +kernel
theorem dX5_rob_14 : decode cX5_rob 14 = .ok (.getfield 192, 3) := by decide +kernel
theorem dX5_rob_17 : decode cX5_rob 17 = .ok (.invokestatic 70, 3) := by decide +kernel
theorem dX5_rob_20 : decode cX5_rob 20 = .ok (.aload_n 0, 1) := by decide +kernel
theorem dX5_rob_21 : decode cX5_rob 21 = .ok (.getfield 25, 3) := by decide +kernel
theorem dX5_rob_24 : decode cX5_rob 24 = .ok (.iload_n 1, 1) := by decide +kernel
theorem dX5_rob_25 : decode cX5_rob 25 = .ok (.aaload, 1) := by decide +kernel
theorem dX5_rob_26 : decode cX5_rob 26 = .ok (.iconst 0, 1) := by decide +kernel
theorem dX5_rob_27 : decode cX5_rob 27 = .ok (.putfield 192, 3) := by decide +kernel
theorem dX5_rob_30 : decode cX5_rob 30 = .ok (.aload_n 0, 1) := by decide +kernel
theorem dX5_rob_31 : decode cX5_rob 31 = .ok (.getfield 25, 3) := by decide +kernel
theorem dX5_rob_34 : decode cX5_rob 34 = .ok (.iload_n 1, 1) := by decide +kernel
theorem dX5_rob_35 : decode cX5_rob 35 = .ok (.aaload, 1) := by decide +kernel
theorem dX5_rob_36 : decode cX5_rob 36 = .ok (.iconst 1, 1) := by decide +kernel
theorem dX5_rob_37 : decode cX5_rob 37 = .ok (.putfield 195, 3) := by decide +kernel
theorem dX5_rob_40 : decode cX5_rob 40 = .ok (.aload_n 0, 1) := by decide +kernel
theorem dX5_rob_41 : decode cX5_rob 41 = .ok (.getfield 25, 3) := by decide +kernel
theorem dX5_rob_44 : decode cX5_rob 44 = .ok (.iload_n 1, 1) := by decide +kernel
theorem dX5_rob_45 : decode cX5_rob 45 = .ok (.aaload, 1) := by decide +kernel
theorem dX5_rob_46 : decode cX5_rob 46 = .ok (.getfield 188, 3) := by decide +kernel
theorem dX5_rob_49 : decode cX5_rob 49 = .ok (.ireturn, 1) := by decide +kernel
theorem dX5_ring_0 : decode cX5_ring 0 = .ok (.lconst 0, 1) := by decide +kernel
theorem dX5_ring_1 : decode cX5_ring 1 = .ok (.lstore_n 1, 1) := by decide +kernel
theorem dX5_ring_2 : decode cX5_ring 2 = .ok (.iconst 0, 1) := by decide +kernel
theorem dX5_ring_3 : decode cX5_ring 3 = .ok (.istore_n 3, 1) := by decide +kernel
theorem dX5_ring_4 : decode cX5_ring 4 = .ok (.iload_n 3, 1) := by decide +kernel
theorem dX5_ring_5 : decode cX5_ring 5 = .ok (.aload_n 0, 1) := by decide +kernel
theorem dX5_ring_6 : decode cX5_ring 6 = .ok (.getfield 66, 3) := by decide +kernel
theorem dX5_ring_9 : decode cX5_ring 9 = .ok (.if_icmp .ge 76, 3) := by decide +kernel
theorem dX5_ring_12 : decode cX5_ring 12 = .ok (.iconst 0, 1) := by decide +kernel
theorem dX5_ring_13 : decode cX5_ring 13 = .ok (.istore 4, 2) := by decide +kernel
theorem dX5_ring_15 : decode cX5_ring 15 = .ok (.iload 4, 2) := by decide +kernel
theorem dX5_ring_17 : decode cX5_ring 17 = .ok (.aload_n 0, 1) := by decide +kernel
theorem dX5_ring_18 : decode cX5_ring 18 = .ok (.getfield 66, 3) := by decide +kernel
theorem dX5_ring_21 : decode cX5_ring 21 = .ok (.if_icmp .ge 58, 3) := by decide +kernel
theorem dX5_ring_24 : decode cX5_ring 24 = .ok (.iconst 0, 1) := by decide +kernel
theorem dX5_ring_25 : decode cX5_ring 25 = .ok (.istore 5, 2) := by decide +kernel
theorem dX5_ring_27 : decode cX5_ring 27 = .ok (.iload 5, 2) := by decide +kernel
theorem dX5_ring_29 : decode cX5_ring 29 = .ok (.aload_n 0, 1) := by decide +kernel
theorem dX5_ring_30 : decode cX5_ring 30 = .ok (.getfield 66, 3) := by decide +kernel
theorem dX5_ring_33 : decode cX5_ring 33 = .ok (.if_icmp .ge 40, 3) := by decide +kernel
theorem dX5_ring_36 : decode cX5_ring 36 = .ok (.iload_n 3, 1) := by decide +kernel
theorem dX5_ring_37 : decode cX5_ring 37 = .ok (.iload 4, 2) := by decide +kernel
theorem dX5_ring_39 : decode cX5_ring 39 = .ok (.if_icmp .eq 28, 3) := by decide +kernel
theorem dX5_ring_42 : decode cX5_ring 42 = .ok (.iload 4, 2) := by decide +kernel
theorem dX5_ring_44 : decode cX5_ring 44 = .ok (.iload 5, 2) := by decide +kernel
theorem dX5_ring_46 : decode cX5_ring 46 = .ok (.if_icmp .eq 21, 3) := by decide +kernel
theorem dX5_ring_49 : decode cX5_ring 49 = .ok (.iload 5, 2) := by decide +kernel
theorem dX5_ring_51 : decode cX5_ring 51 = .ok (.iload_n 3, 1) := by decide +kernel
theorem dX5_ring_52 : decode cX5_ring 52 = .ok (.if_icmp .eq 15, 3) := by decide +kernel
theorem dX5_ring_55 : decode cX5_ring 55 = .ok (.lload_n 1, 1) := by decide +kernel
theorem dX5_ring_56 : decode cX5_ring 56 = .ok (.aload_n 0, 1) := by decide +kernel
theorem dX5_ring_57 : decode cX5_ring 57 = .ok (.iload_n 3, 1) := by decide +kernel
theorem dX5_ring_58 : decode cX5_ring 58 = .ok (.iload 4, 2) := by decide +kernel
theorem dX5_ring_60 : decode cX5_ring 60 = .ok (.iload 5, 2) := by decide +kernel
theorem dX5_ring_62 : decode cX5_ring 62 = .ok (.invokevirtual 198, 3) := by decide +kernel
theorem dX5_ring_65 : decode cX5_ring 65 = .ok (.ladd, 1) := by decide +kernel
theorem dX5_ring_66 : decode cX5_ring 66 = .ok (.lstore_n 1, 1) := by decide +kernel
theorem dX5_ring_67 : decode cX5_ring 67 = .ok (.iinc 5 1, 3) := by decide +kernel
theorem dX5_ring_70 : decode cX5_ring 70 = .ok (.goto (-43), 3) := by decide +kernel
theorem dX5_ring_73 : decode cX5_ring 73 = .ok (.iinc 4 1, 3) := by decide +kernel
theorem dX5_ring_76 : decode cX5_ring 76 = .ok (.goto (-61), 3) := by decide +kernel
theorem dX5_ring_79 : decode cX5_ring 79 = .ok (.iinc 3 1, 3) := by decide +kernel
theorem dX5_ring_82 : decode cX5_ring 82 = .ok (.goto (-78), 3) := by decide +kernel
theorem dX5_ring_85 : decode cX5_ring 85 = .ok (.lload_n 1, 1) := by decide +kernel
theorem dX5_ring_86 : decode cX5_ring 86 = .ok (.lreturn, 1) := by decide +kernel
theorem dX5_law_0 : decode cX5_law 0 = .ok (.iload_n 1, 1) := by decide +kernel
theorem dX5_law_1 : decode cX5_law 1 = .ok (.bipush 8, 2) := by decide +kernel
theorem dX5_law_3 : decode cX5_law 3 = .ok (.invokestatic 58, 3) := by decide +kernel
theorem dX5_law_6 : decode cX5_law 6 = .ok (.iload_n 2, 1) := by decide +kernel
theorem dX5_law_7 : decode cX5_law 7 = .ok (.iconst 0, 1) := by decide +kernel
theorem dX5_law_8 : decode cX5_law 8 = .ok (.ldc 50, 2) := by decide +kernel
theorem dX5_law_10 : decode cX5_law 10 = .ok (.invokestatic 62, 3) := by decide +kernel
theorem dX5_law_13 : decode cX5_law 13 = .ok (.aload_n 0, 1) := by decide +kernel
theorem dX5_law_14 : decode cX5_law 14 = .ok (.getfield 46, 3) := by decide +kernel
theorem dX5_law_17 : decode cX5_law 17 = .ok (.iload_n 1, 1) := by decide +kernel
theorem dX5_law_18 : decode cX5_law 18 = .ok (.iload_n 2, 1) := by decide +kernel
theorem dX5_law_19 : decode cX5_law 19 = .ok (.iastore, 1) := by decide +kernel
theorem dX5_law_20 : decode cX5_law 20 = .ok (.aload_n 0, 1) := by decide +kernel
theorem dX5_law_21 : decode cX5_law 21 = .ok (.getfield 51, 3) := by decide +kernel
theorem dX5_law_24 : decode cX5_law 24 = .ok (.iload_n 1, 1) := by decide +kernel
theorem dX5_law_25 : decode cX5_law 25 = .ok (.iaload, 1) := by decide +kernel
theorem dX5_law_26 : decode cX5_law 26 = .ok (.ireturn, 1) := by decide +kernel
theorem dX5_list_0 : decode cX5_list 0 = .ok (.iload_n 1, 1) := by decide +kernel
theorem dX5_list_1 : decode cX5_list 1 = .ok (.bipush 20, 2) := by decide +kernel
theorem dX5_list_3 : decode cX5_list 3 = .ok (.invokestatic 58, 3) := by decide +kernel
theorem dX5_list_6 : decode cX5_list 6 = .ok (.aload_n 0, 1) := by decide +kernel
theorem dX5_list_7 : decode cX5_list 7 = .ok (.getfield 54, 3) := by decide +kernel
theorem dX5_list_10 : decode cX5_list 10 = .ok (.iload_n 1, 1) := by decide +kernel
theorem dX5_list_11 : decode cX5_list 11 = .ok (.aload_n 0, 1) := by decide +kernel
theorem dX5_list_12 : decode cX5_list 12 = .ok (.getfield 54, 3) := by decide +kernel
theorem dX5_list_15 : decode cX5_list 15 = .ok (.iload_n 1, 1) := by decide +kernel
theorem dX5_list_16 : decode cX5_list 16 = .ok (.baload, 1) := by decide +kernel
theorem dX5_list_17 : decode cX5_list 17 = .ok (.ifCond .ne 7, 3) := by decide +kernel
theorem dX5_list_20 : decode cX5_list 20 = .ok (.iconst 1, 1) := by decide +kernel
theorem dX5_list_21 : decode cX5_list 21 = .ok (.goto 4, 3) := by decide +kernel
theorem dX5_list_24 : decode cX5_list 24 = .ok (.iconst 0, 1) := by decide +kernel
theorem dX5_list_25 : decode cX5_list 25 = .ok (.bastore, 1) := by decide +kernel
theorem dX5_list_26 : decode cX5_list 26 = .ok (.aload_n 0, 1) := by decide +kernel
theorem dX5_list_27 : decode cX5_list 27 = .ok (.getfield 54, 3) := by decide +kernel
theorem dX5_list_30 : decode cX5_list 30 = .ok (.iload_n 1, 1) := by decide +kernel
theorem dX5_list_31 : decode cX5_list 31 = .ok (.baload, 1) := by decide +kernel
theorem dX5_list_32 : decode cX5_list 32 = .ok (.ireturn, 1) := by decide +kernel
theorem dX5_brokerOf_0 : decode cX5_brokerOf 0 = .ok (.iload_n 1, 1) := by decide +kernel
theorem dX5_brokerOf_1 : decode cX5_brokerOf 1 = .ok (.aload_n 0, 1) := by decide +kernel
theorem dX5_brokerOf_2 : decode cX5_brokerOf 2 = .ok (.getfield 66, 3) := by decide +kernel
theorem dX5_brokerOf_5 : decode cX5_brokerOf 5 = .ok (.invokestatic 58, 3) := by decide +kernel
theorem dX5_brokerOf_8 : decode cX5_brokerOf 8 = .ok (.iload_n 2, 1) := by decide +kernel
theorem dX5_brokerOf_9 : decode cX5_brokerOf 9 = .ok (.iconst 0, 1) := by decide +kernel
theorem dX5_brokerOf_10 : decode cX5_brokerOf 10 = .ok (.iconst 3, 1) := by decide +kernel
theorem dX5_brokerOf_11 : decode cX5_brokerOf 11 = .ok (.invokestatic 62, 3) := by decide +kernel
theorem dX5_brokerOf_14 : decode cX5_brokerOf 14 = .ok (.iload_n 2, 1) := by decide +kernel
theorem dX5_brokerOf_15 : decode cX5_brokerOf 15 = .ok (.tableswitch 57 0 2 #[25, 36, 46], 25) := by decide +kernel
theorem dX5_brokerOf_40 : decode cX5_brokerOf 40 = .ok (.aload_n 0, 1) := by decide +kernel
theorem dX5_brokerOf_41 : decode cX5_brokerOf 41 = .ok (.getfield 11, 3) := by decide +kernel
theorem dX5_brokerOf_44 : decode cX5_brokerOf 44 = .ok (.iload_n 1, 1) := by decide +kernel
theorem dX5_brokerOf_45 : decode cX5_brokerOf 45 = .ok (.aaload, 1) := by decide +kernel
theorem dX5_brokerOf_46 : decode cX5_brokerOf 46 = .ok (.getfield 97, 3) := by decide +kernel
theorem dX5_brokerOf_49 : decode cX5_brokerOf 49 = .ok (.i2l, 1) := by decide +kernel
theorem dX5_brokerOf_50 : decode cX5_brokerOf 50 = .ok (.lreturn, 1) := by decide +kernel
theorem dX5_brokerOf_51 : decode cX5_brokerOf 51 = .ok (.aload_n 0, 1) := by decide +kernel
theorem dX5_brokerOf_52 : decode cX5_brokerOf 52 = .ok (.getfield 11, 3) := by decide +kernel
theorem dX5_brokerOf_55 : decode cX5_brokerOf 55 = .ok (.iload_n 1, 1) := by decide +kernel
theorem dX5_brokerOf_56 : decode cX5_brokerOf 56 = .ok (.aaload, 1) := by decide +kernel
theorem dX5_brokerOf_57 : decode cX5_brokerOf 57 = .ok (.getfield 77, 3) := by decide +kernel
theorem dX5_brokerOf_60 : decode cX5_brokerOf 60 = .ok (.lreturn, 1) := by decide +kernel
theorem dX5_brokerOf_61 : decode cX5_brokerOf 61 = .ok (.aload_n 0, 1) := by decide +kernel
theorem dX5_brokerOf_62 : decode cX5_brokerOf 62 = .ok (.getfield 11, 3) := by decide +kernel
theorem dX5_brokerOf_65 : decode cX5_brokerOf 65 = .ok (.iload_n 1, 1) := by decide +kernel
theorem dX5_brokerOf_66 : decode cX5_brokerOf 66 = .ok (.aaload, 1) := by decide +kernel
theorem dX5_brokerOf_67 : decode cX5_brokerOf 67 = .ok (.getfield 74, 3) := by decide +kernel
theorem dX5_brokerOf_70 : decode cX5_brokerOf 70 = .ok (.i2l, 1) := by decide +kernel
theorem dX5_brokerOf_71 : decode cX5_brokerOf 71 = .ok (.lreturn, 1) := by decide +kernel
theorem dX5_brokerOf_72 : decode cX5_brokerOf 72 = .ok (.aload_n 0, 1) := by decide +kernel
theorem dX5_brokerOf_73 : decode cX5_brokerOf 73 = .ok (.iload_n 1, 1) := by decide +kernel
theorem dX5_brokerOf_74 : decode cX5_brokerOf 74 = .ok (.invokevirtual 202, 3) := by decide +kernel
theorem dX5_brokerOf_77 : decode cX5_brokerOf 77 = .ok (.lreturn, 1) := by decide +kernel
theorem dX5_debt_0 : decode cX5_debt 0 = .ok (.iload_n 1, 1) := by decide +kernel
theorem dX5_debt_1 : decode cX5_debt 1 = .ok (.aload_n 0, 1) := by decide +kernel
theorem dX5_debt_2 : decode cX5_debt 2 = .ok (.getfield 66, 3) := by decide +kernel
theorem dX5_debt_5 : decode cX5_debt 5 = .ok (.invokestatic 58, 3) := by decide +kernel
theorem dX5_debt_8 : decode cX5_debt 8 = .ok (.iload_n 2, 1) := by decide +kernel
theorem dX5_debt_9 : decode cX5_debt 9 = .ok (.aload_n 0, 1) := by decide +kernel
theorem dX5_debt_10 : decode cX5_debt 10 = .ok (.getfield 66, 3) := by decide +kernel
theorem dX5_debt_13 : decode cX5_debt 13 = .ok (.invokestatic 58, 3) := by decide +kernel
theorem dX5_debt_16 : decode cX5_debt 16 = .ok (.iload_n 3, 1) := by decide +kernel
theorem dX5_debt_17 : decode cX5_debt 17 = .ok (.ifCond .eq 17, 3) := by decide +kernel
theorem dX5_debt_20 : decode cX5_debt 20 = .ok (.aload_n 0, 1) := by decide +kernel
theorem dX5_debt_21 : decode cX5_debt 21 = .ok (.getfield 33, 3) := by decide +kernel
theorem dX5_debt_24 : decode cX5_debt 24 = .ok (.getfield 206, 3) := by decide +kernel
theorem dX5_debt_27 : decode cX5_debt 27 = .ok (.iload_n 1, 1) := by decide +kernel
theorem dX5_debt_28 : decode cX5_debt 28 = .ok (.aaload, 1) := by decide +kernel
theorem dX5_debt_29 : decode cX5_debt 29 = .ok (.iload_n 2, 1) := by decide +kernel
theorem dX5_debt_30 : decode cX5_debt 30 = .ok (.laload, 1) := by decide +kernel
theorem dX5_debt_31 : decode cX5_debt 31 = .ok (.goto 14, 3) := by decide +kernel
theorem dX5_debt_34 : decode cX5_debt 34 = .ok (.aload_n 0, 1) := by decide +kernel
theorem dX5_debt_35 : decode cX5_debt 35 = .ok (.getfield 33, 3) := by decide +kernel
theorem dX5_debt_38 : decode cX5_debt 38 = .ok (.getfield 171, 3) := by decide +kernel
theorem dX5_debt_41 : decode cX5_debt 41 = .ok (.iload_n 1, 1) := by decide +kernel
theorem dX5_debt_42 : decode cX5_debt 42 = .ok (.aaload, 1) := by decide +kernel
theorem dX5_debt_43 : decode cX5_debt 43 = .ok (.iload_n 2, 1) := by decide +kernel
theorem dX5_debt_44 : decode cX5_debt 44 = .ok (.laload, 1) := by decide +kernel
theorem dX5_debt_45 : decode cX5_debt 45 = .ok (.lreturn, 1) := by decide +kernel
theorem dX5_agree_0 : decode cX5_agree 0 = .ok (.iload_n 1, 1) := by decide +kernel
theorem dX5_agree_1 : decode cX5_agree 1 = .ok (.aload_n 0, 1) := by decide +kernel
theorem dX5_agree_2 : decode cX5_agree 2 = .ok (.getfield 66, 3) := by decide +kernel
theorem dX5_agree_5 : decode cX5_agree 5 = .ok (.invokestatic 58, 3) := by decide +kernel
theorem dX5_agree_8 : decode cX5_agree 8 = .ok (.iload_n 2, 1) := by decide +kernel
theorem dX5_agree_9 : decode cX5_agree 9 = .ok (.aload_n 0, 1) := by decide +kernel
theorem dX5_agree_10 : decode cX5_agree 10 = .ok (.getfield 66, 3) := by decide +kernel
theorem dX5_agree_13 : decode cX5_agree 13 = .ok (.invokestatic 58, 3) := by decide +kernel
theorem dX5_agree_16 : decode cX5_agree 16 = .ok (.aload_n 0, 1) := by decide +kernel
theorem dX5_agree_17 : decode cX5_agree 17 = .ok (.getfield 33, 3) := by decide +kernel
theorem dX5_agree_20 : decode cX5_agree 20 = .ok (.getfield 206, 3) := by decide +kernel
theorem dX5_agree_23 : decode cX5_agree 23 = .ok (.iload_n 1, 1) := by decide +kernel
theorem dX5_agree_24 : decode cX5_agree 24 = .ok (.aaload, 1) := by decide +kernel
theorem dX5_agree_25 : decode cX5_agree 25 = .ok (.iload_n 2, 1) := by decide +kernel
theorem dX5_agree_26 : decode cX5_agree 26 = .ok (.laload, 1) := by decide +kernel
theorem dX5_agree_27 : decode cX5_agree 27 = .ok (.aload_n 0, 1) := by decide +kernel
theorem dX5_agree_28 : decode cX5_agree 28 = .ok (.getfield 33, 3) := by decide +kernel
theorem dX5_agree_31 : decode cX5_agree 31 = .ok (.getfield 206, 3) := by decide +kernel
theorem dX5_agree_34 : decode cX5_agree 34 = .ok (.iload_n 2, 1) := by decide +kernel
theorem dX5_agree_35 : decode cX5_agree 35 = .ok (.aaload, 1) := by decide +kernel
theorem dX5_agree_36 : decode cX5_agree 36 = .ok (.iload_n 1, 1) := by decide +kernel
theorem dX5_agree_37 : decode cX5_agree 37 = .ok (.laload, 1) := by decide +kernel
theorem dX5_agree_38 : decode cX5_agree 38 = .ok (.lneg, 1) := by decide +kernel
theorem dX5_agree_39 : decode cX5_agree 39 = .ok (.lcmp, 1) := by decide +kernel
theorem dX5_agree_40 : decode cX5_agree 40 = .ok (.ifCond .ne 7, 3) := by decide +kernel
theorem dX5_agree_43 : decode cX5_agree 43 = .ok (.iconst 1, 1) := by decide +kernel
theorem dX5_agree_44 : decode cX5_agree 44 = .ok (.goto 4, 3) := by decide +kernel
theorem dX5_agree_47 : decode cX5_agree 47 = .ok (.iconst 0, 1) := by decide +kernel
theorem dX5_agree_48 : decode cX5_agree 48 = .ok (.ireturn, 1) := by decide +kernel
theorem dX5_way_0 : decode cX5_way 0 = .ok (.iload 4, 2) := by decide +kernel
theorem dX5_way_2 : decode cX5_way 2 = .ok (.invokestatic 209, 3) := by decide +kernel
theorem dX5_way_5 : decode cX5_way 5 = .ok (.aload_n 0, 1) := by decide +kernel
theorem dX5_way_6 : decode cX5_way 6 = .ok (.iload_n 1, 1) := by decide +kernel
theorem dX5_way_7 : decode cX5_way 7 = .ok (.iload_n 2, 1) := by decide +kernel
theorem dX5_way_8 : decode cX5_way 8 = .ok (.invokevirtual 84, 3) := by decide +kernel
theorem dX5_way_11 : decode cX5_way 11 = .ok (.iload_n 3, 1) := by decide +kernel
theorem dX5_way_12 : decode cX5_way 12 = .ok (.iconst 1, 1) := by decide +kernel
theorem dX5_way_13 : decode cX5_way 13 = .ok (.ldc 50, 2) := by decide +kernel
theorem dX5_way_15 : decode cX5_way 15 = .ok (.invokestatic 62, 3) := by decide +kernel
theorem dX5_way_18 : decode cX5_way 18 = .ok (.aload_n 0, 1) := by decide +kernel
theorem dX5_way_19 : decode cX5_way 19 = .ok (.iload_n 1, 1) := by decide +kernel
theorem dX5_way_20 : decode cX5_way 20 = .ok (.iload_n 2, 1) := by decide +kernel
theorem dX5_way_21 : decode cX5_way 21 = .ok (.iload_n 3, 1) := by decide +kernel
theorem dX5_way_22 : decode cX5_way 22 = .ok (.invokevirtual 127, 3) := by decide +kernel
theorem dX5_way_25 : decode cX5_way 25 = .ok (.ifCond .ne 5, 3) := by decide +kernel
theorem dX5_way_28 : decode cX5_way 28 = .ok (.iconst (-1), 1) := by decide +kernel
theorem dX5_way_29 : decode cX5_way 29 = .ok (.ireturn, 1) := by decide +kernel
theorem dX5_way_30 : decode cX5_way 30 = .ok (.iload 4, 2) := by decide +kernel
theorem dX5_way_32 : decode cX5_way 32 = .ok (.aload_n 0, 1) := by decide +kernel
theorem dX5_way_33 : decode cX5_way 33 = .ok (.getfield 42, 3) := by decide +kernel
theorem dX5_way_36 : decode cX5_way 36 = .ok (.getfield 212, 3) := by decide +kernel
theorem dX5_way_39 : decode cX5_way 39 = .ok (.if_icmp .ge 29, 3) := by decide +kernel
theorem dX5_way_42 : decode cX5_way 42 = .ok (.iload 4, 2) := by decide +kernel
theorem dX5_way_44 : decode cX5_way 44 = .ok (.aload_n 0, 1) := by decide +kernel
theorem dX5_way_45 : decode cX5_way 45 = .ok (.getfield 42, 3) := by decide +kernel
theorem dX5_way_48 : decode cX5_way 48 = .ok (.getfield 215, 3) := by decide +kernel
theorem dX5_way_51 : decode cX5_way 51 = .ok (.arraylength, 1) := by decide +kernel
theorem dX5_way_52 : decode cX5_way 52 = .ok (.if_icmp .ge 16, 3) := by decide +kernel
theorem dX5_way_55 : decode cX5_way 55 = .ok (.aload_n 0, 1) := by decide +kernel
theorem dX5_way_56 : decode cX5_way 56 = .ok (.getfield 42, 3) := by decide +kernel
theorem dX5_way_59 : decode cX5_way 59 = .ok (.getfield 215, 3) := by decide +kernel
theorem dX5_way_62 : decode cX5_way 62 = .ok (.iload 4, 2) := by decide +kernel
theorem dX5_way_64 : decode cX5_way 64 = .ok (.iaload, 1) := by decide +kernel
theorem dX5_way_65 : decode cX5_way 65 = .ok (.goto 4, 3) := by decide +kernel
theorem dX5_way_68 : decode cX5_way 68 = .ok (.iconst (-1), 1) := by decide +kernel
theorem dX5_way_69 : decode cX5_way 69 = .ok (.ireturn, 1) := by decide +kernel
theorem dX5_wayOf_0 : decode cX5_wayOf 0 = .ok (.iload_n 1, 1) := by decide +kernel
theorem dX5_wayOf_1 : decode cX5_wayOf 1 = .ok (.aload_n 0, 1) := by decide +kernel
theorem dX5_wayOf_2 : decode cX5_wayOf 2 = .ok (.getfield 124, 3) := by decide +kernel
theorem dX5_wayOf_5 : decode cX5_wayOf 5 = .ok (.invokestatic 58, 3) := by decide +kernel
theorem dX5_wayOf_8 : decode cX5_wayOf 8 = .ok (.iload_n 2, 1) := by decide +kernel
theorem dX5_wayOf_9 : decode cX5_wayOf 9 = .ok (.invokestatic 209, 3) := by decide +kernel
theorem dX5_wayOf_12 : decode cX5_wayOf 12 = .ok (.aload_n 0, 1) := by decide +kernel
theorem dX5_wayOf_13 : decode cX5_wayOf 13 = .ok (.getfield 18, 3) := by decide +kernel
theorem dX5_wayOf_16 : decode cX5_wayOf 16 = .ok (.iload_n 1, 1) := by decide +kernel
theorem dX5_wayOf_17 : decode cX5_wayOf 17 = .ok (.aaload, 1) := by decide +kernel
theorem dX5_wayOf_18 : decode cX5_wayOf 18 = .ok (.iload_n 2, 1) := by decide +kernel
theorem dX5_wayOf_19 : decode cX5_wayOf 19 = .ok (.invokevirtual 218, 3) := by decide +kernel
theorem dX5_wayOf_22 : decode cX5_wayOf 22 = .ok (.ireturn, 1) := by decide +kernel
theorem dX5_orderOf_0 : decode cX5_orderOf 0 = .ok (.iload_n 1, 1) := by decide +kernel
theorem dX5_orderOf_1 : decode cX5_orderOf 1 = .ok (.aload_n 0, 1) := by decide +kernel
theorem dX5_orderOf_2 : decode cX5_orderOf 2 = .ok (.getfield 124, 3) := by decide +kernel
theorem dX5_orderOf_5 : decode cX5_orderOf 5 = .ok (.invokestatic 58, 3) := by decide +kernel
theorem dX5_orderOf_8 : decode cX5_orderOf 8 = .ok (.iload_n 2, 1) := by decide +kernel
theorem dX5_orderOf_9 : decode cX5_orderOf 9 = .ok (.iconst 0, 1) := by decide +kernel
theorem dX5_orderOf_10 : decode cX5_orderOf 10 = .ok (.iconst 5, 1) := by decide +kernel
theorem dX5_orderOf_11 : decode cX5_orderOf 11 = .ok (.invokestatic 62, 3) := by decide +kernel
theorem dX5_orderOf_14 : decode cX5_orderOf 14 = .ok (.aload_n 0, 1) := by decide +kernel
theorem dX5_orderOf_15 : decode cX5_orderOf 15 = .ok (.getfield 18, 3) := by decide +kernel
theorem dX5_orderOf_18 : decode cX5_orderOf 18 = .ok (.iload_n 1, 1) := by decide +kernel
theorem dX5_orderOf_19 : decode cX5_orderOf 19 = .ok (.aaload, 1) := by decide +kernel
theorem dX5_orderOf_20 : decode cX5_orderOf 20 = .ok (.astore_n 3, 1) := by decide +kernel
theorem dX5_orderOf_21 : decode cX5_orderOf 21 = .ok (.iload_n 2, 1) := by decide +kernel
theorem dX5_orderOf_22 : decode cX5_orderOf 22 = .ok (.tableswitch 59 0 4 #[34, 39, 44, 49, 54], 34) := by decide +kernel
theorem dX5_orderOf_56 : decode cX5_orderOf 56 = .ok (.aload_n 3, 1) := by decide +kernel
theorem dX5_orderOf_57 : decode cX5_orderOf 57 = .ok (.getfield 140, 3) := by decide +kernel
theorem dX5_orderOf_60 : decode cX5_orderOf 60 = .ok (.ireturn, 1) := by decide +kernel
theorem dX5_orderOf_61 : decode cX5_orderOf 61 = .ok (.aload_n 3, 1) := by decide +kernel
theorem dX5_orderOf_62 : decode cX5_orderOf 62 = .ok (.getfield 131, 3) := by decide +kernel
theorem dX5_orderOf_65 : decode cX5_orderOf 65 = .ok (.ireturn, 1) := by decide +kernel
theorem dX5_orderOf_66 : decode cX5_orderOf 66 = .ok (.aload_n 3, 1) := by decide +kernel
theorem dX5_orderOf_67 : decode cX5_orderOf 67 = .ok (.getfield 145, 3) := by decide +kernel
theorem dX5_orderOf_70 : decode cX5_orderOf 70 = .ok (.ireturn, 1) := by decide +kernel
theorem dX5_orderOf_71 : decode cX5_orderOf 71 = .ok (.aload_n 3, 1) := by decide +kernel
theorem dX5_orderOf_72 : decode cX5_orderOf 72 = .ok (.getfield 221, 3) := by decide +kernel
theorem dX5_orderOf_75 : decode cX5_orderOf 75 = .ok (.ireturn, 1) := by decide +kernel
theorem dX5_orderOf_76 : decode cX5_orderOf 76 = .ok (.aload_n 3, 1) := by decide +kernel
theorem dX5_orderOf_77 : decode cX5_orderOf 77 = .ok (.getfield 162, 3) := by decide +kernel
theorem dX5_orderOf_80 : decode cX5_orderOf 80 = .ok (.ireturn, 1) := by decide +kernel
theorem dX5_orderOf_81 : decode cX5_orderOf 81 = .ok (.aload_n 3, 1) := by decide +kernel
theorem dX5_orderOf_82 : decode cX5_orderOf 82 = .ok (.getfield 137, 3) := by decide +kernel
theorem dX5_orderOf_85 : decode cX5_orderOf 85 = .ok (.ireturn, 1) := by decide +kernel
theorem dX5_inquiry_0 : decode cX5_inquiry 0 = .ok (.iconst 0, 1) := by decide +kernel
theorem dX5_inquiry_1 : decode cX5_inquiry 1 = .ok (.istore_n 1, 1) := by decide +kernel
theorem dX5_inquiry_2 : decode cX5_inquiry 2 = .ok (.iconst 0, 1) := by decide +kernel
theorem dX5_inquiry_3 : decode cX5_inquiry 3 = .ok (.istore_n 2, 1) := by decide +kernel
theorem dX5_inquiry_4 : decode cX5_inquiry 4 = .ok (.iload_n 2, 1) := by decide +kernel
theorem dX5_inquiry_5 : decode cX5_inquiry 5 = .ok (.aload_n 0, 1) := by decide +kernel
theorem dX5_inquiry_6 : decode cX5_inquiry 6 = .ok (.getfield 66, 3) := by decide +kernel
theorem dX5_inquiry_9 : decode cX5_inquiry 9 = .ok (.if_icmp .ge 27, 3) := by decide +kernel
theorem dX5_inquiry_12 : decode cX5_inquiry 12 = .ok (.aload_n 0, 1) := by decide +kernel
theorem dX5_inquiry_13 : decode cX5_inquiry 13 = .ok (.getfield 11, 3) := by decide +kernel
theorem dX5_inquiry_16 : decode cX5_inquiry 16 = .ok (.iload_n 2, 1) := by decide +kernel
theorem dX5_inquiry_17 : decode cX5_inquiry 17 = .ok (.aaload, 1) := by decide +kernel
theorem dX5_inquiry_18 : decode cX5_inquiry 18 = .ok (.getfield 118, 3) := by decide +kernel
theorem dX5_inquiry_21 : decode cX5_inquiry 21 = .ok (.ifCond .eq 9, 3) := by decide +kernel
theorem dX5_inquiry_24 : decode cX5_inquiry 24 = .ok (.iload_n 1, 1) := by decide +kernel
theorem dX5_inquiry_25 : decode cX5_inquiry 25 = .ok (.iconst 1, 1) := by decide +kernel
theorem dX5_inquiry_26 : decode cX5_inquiry 26 = .ok (.iload_n 2, 1) := by decide +kernel
theorem dX5_inquiry_27 : decode cX5_inquiry 27 = .ok (.ishl, 1) := by decide +kernel
theorem dX5_inquiry_28 : decode cX5_inquiry 28 = .ok (.ior, 1) := by decide +kernel
theorem dX5_inquiry_29 : decode cX5_inquiry 29 = .ok (.istore_n 1, 1) := by decide +kernel
theorem dX5_inquiry_30 : decode cX5_inquiry 30 = .ok (.iinc 2 1, 3) := by decide +kernel
theorem dX5_inquiry_33 : decode cX5_inquiry 33 = .ok (.goto (-29), 3) := by decide +kernel
theorem dX5_inquiry_36 : decode cX5_inquiry 36 = .ok (.iconst 0, 1) := by decide +kernel
theorem dX5_inquiry_37 : decode cX5_inquiry 37 = .ok (.istore_n 2, 1) := by decide +kernel
theorem dX5_inquiry_38 : decode cX5_inquiry 38 = .ok (.iload_n 2, 1) := by decide +kernel
theorem dX5_inquiry_39 : decode cX5_inquiry 39 = .ok (.aload_n 0, 1) := by decide +kernel
theorem dX5_inquiry_40 : decode cX5_inquiry 40 = .ok (.getfield 66, 3) := by decide +kernel
theorem dX5_inquiry_43 : decode cX5_inquiry 43 = .ok (.if_icmp .ge 41, 3) := by decide +kernel
theorem dX5_inquiry_46 : decode cX5_inquiry 46 = .ok (.iconst 0, 1) := by decide +kernel
theorem dX5_inquiry_47 : decode cX5_inquiry 47 = .ok (.istore_n 3, 1) := by decide +kernel
theorem dX5_inquiry_48 : decode cX5_inquiry 48 = .ok (.iload_n 3, 1) := by decide +kernel
theorem dX5_inquiry_49 : decode cX5_inquiry 49 = .ok (.aload_n 0, 1) := by decide +kernel
theorem dX5_inquiry_50 : decode cX5_inquiry 50 = .ok (.getfield 66, 3) := by decide +kernel
theorem dX5_inquiry_53 : decode cX5_inquiry 53 = .ok (.if_icmp .ge 25, 3) := by decide +kernel
theorem dX5_inquiry_56 : decode cX5_inquiry 56 = .ok (.iload_n 1, 1) := by decide +kernel
theorem dX5_inquiry_57 : decode cX5_inquiry 57 = .ok (.iconst 1, 1) := by decide +kernel
theorem dX5_inquiry_58 : decode cX5_inquiry 58 = .ok (.iload_n 3, 1) := by decide +kernel
theorem dX5_inquiry_59 : decode cX5_inquiry 59 = .ok (.ishl, 1) := by decide +kernel
theorem dX5_inquiry_60 : decode cX5_inquiry 60 = .ok (.iand, 1) := by decide +kernel
theorem dX5_inquiry_61 : decode cX5_inquiry 61 = .ok (.ifCond .eq 11, 3) := by decide +kernel
theorem dX5_inquiry_64 : decode cX5_inquiry 64 = .ok (.iload_n 1, 1) := by decide +kernel
theorem dX5_inquiry_65 : decode cX5_inquiry 65 = .ok (.aload_n 0, 1) := by decide +kernel
theorem dX5_inquiry_66 : decode cX5_inquiry 66 = .ok (.iload_n 3, 1) := by decide +kernel
theorem dX5_inquiry_67 : decode cX5_inquiry 67 = .ok (.invokevirtual 224, 3) := by decide +kernel
theorem dX5_inquiry_70 : decode cX5_inquiry 70 = .ok (.ior, 1) := by decide +kernel
theorem dX5_inquiry_71 : decode cX5_inquiry 71 = .ok (.istore_n 1, 1) := by decide +kernel
theorem dX5_inquiry_72 : decode cX5_inquiry 72 = .ok (.iinc 3 1, 3) := by decide +kernel
theorem dX5_inquiry_75 : decode cX5_inquiry 75 = .ok (.goto (-27), 3) := by decide +kernel
theorem dX5_inquiry_78 : decode cX5_inquiry 78 = .ok (.iinc 2 1, 3) := by decide +kernel
theorem dX5_inquiry_81 : decode cX5_inquiry 81 = .ok (.goto (-43), 3) := by decide +kernel
theorem dX5_inquiry_84 : decode cX5_inquiry 84 = .ok (.iload_n 1, 1) := by decide +kernel
theorem dX5_inquiry_85 : decode cX5_inquiry 85 = .ok (.ireturn, 1) := by decide +kernel
theorem dX5_sum_0 : decode cX5_sum 0 = .ok (.iload_n 1, 1) := by decide +kernel
theorem dX5_sum_1 : decode cX5_sum 1 = .ok (.iconst 0, 1) := by decide +kernel
theorem dX5_sum_2 : decode cX5_sum 2 = .ok (.bipush 7, 2) := by decide +kernel
theorem dX5_sum_4 : decode cX5_sum 4 = .ok (.invokestatic 62, 3) := by decide +kernel
theorem dX5_sum_7 : decode cX5_sum 7 = .ok (.iload_n 1, 1) := by decide +kernel
theorem dX5_sum_8 : decode cX5_sum 8 = .ok (.tableswitch 80 0 6 #[44, 49, 54, 60, 65, 70, 75], 44) := by decide +kernel
theorem dX5_sum_52 : decode cX5_sum 52 = .ok (.aload_n 0, 1) := by decide +kernel
theorem dX5_sum_53 : decode cX5_sum 53 = .ok (.invokevirtual 227, 3) := by decide +kernel
theorem dX5_sum_56 : decode cX5_sum 56 = .ok (.lreturn, 1) := by decide +kernel
theorem dX5_sum_57 : decode cX5_sum 57 = .ok (.aload_n 0, 1) := by decide +kernel
theorem dX5_sum_58 : decode cX5_sum 58 = .ok (.invokevirtual 231, 3) := by decide +kernel
theorem dX5_sum_61 : decode cX5_sum 61 = .ok (.lreturn, 1) := by decide +kernel
theorem dX5_sum_62 : decode cX5_sum 62 = .ok (.aload_n 0, 1) := by decide +kernel
theorem dX5_sum_63 : decode cX5_sum 63 = .ok (.iconst 4, 1) := by decide +kernel
theorem dX5_sum_64 : decode cX5_sum 64 = .ok (.invokevirtual 234, 3) := by decide +kernel
theorem dX5_sum_67 : decode cX5_sum 67 = .ok (.lreturn, 1) := by decide +kernel
theorem dX5_sum_68 : decode cX5_sum 68 = .ok (.aload_n 0, 1) := by decide +kernel
theorem dX5_sum_69 : decode cX5_sum 69 = .ok (.invokevirtual 237, 3) := by decide +kernel
theorem dX5_sum_72 : decode cX5_sum 72 = .ok (.lreturn, 1) := by decide +kernel
theorem dX5_sum_73 : decode cX5_sum 73 = .ok (.aload_n 0, 1) := by decide +kernel
theorem dX5_sum_74 : decode cX5_sum 74 = .ok (.getfield 121, 3) := by decide +kernel
theorem dX5_sum_77 : decode cX5_sum 77 = .ok (.lreturn, 1) := by decide +kernel
theorem dX5_sum_78 : decode cX5_sum 78 = .ok (.aload_n 0, 1) := by decide +kernel
theorem dX5_sum_79 : decode cX5_sum 79 = .ok (.invokevirtual 240, 3) := by decide +kernel
theorem dX5_sum_82 : decode cX5_sum 82 = .ok (.lreturn, 1) := by decide +kernel
theorem dX5_sum_83 : decode cX5_sum 83 = .ok (.aload_n 0, 1) := by decide +kernel
theorem dX5_sum_84 : decode cX5_sum 84 = .ok (.invokevirtual 243, 3) := by decide +kernel
theorem dX5_sum_87 : decode cX5_sum 87 = .ok (.lreturn, 1) := by decide +kernel
theorem dX5_sum_88 : decode cX5_sum 88 = .ok (.aload_n 0, 1) := by decide +kernel
theorem dX5_sum_89 : decode cX5_sum 89 = .ok (.iconst 5, 1) := by decide +kernel
theorem dX5_sum_90 : decode cX5_sum 90 = .ok (.invokevirtual 234, 3) := by decide +kernel
theorem dX5_sum_93 : decode cX5_sum 93 = .ok (.lreturn, 1) := by decide +kernel
theorem dX5_requireIndex_0 : decode cX5_requireIndex 0 = .ok (.iload_n 0, 1) := by decide +kernel
theorem dX5_requireIndex_1 : decode cX5_requireIndex 1 = .ok (.ifCond .lt 8, 3) := by decide +kernel
theorem dX5_requireIndex_4 : decode cX5_requireIndex 4 = .ok (.iload_n 0, 1) := by decide +kernel
theorem dX5_requireIndex_5 : decode cX5_requireIndex 5 = .ok (.iload_n 1, 1) := by decide +kernel
theorem dX5_requireIndex_6 : decode cX5_requireIndex 6 = .ok (.if_icmp .lt 13, 3) := by decide +kernel
theorem dX5_requireIndex_9 : decode cX5_requireIndex 9 = .ok (.new 246, 3) := by decide +kernel
theorem dX5_requireIndex_12 : decode cX5_requireIndex 12 = .ok (.dup, 1) := by decide +kernel
theorem dX5_requireIndex_13 : decode cX5_requireIndex 13 = .ok (.ldc 248, 2) := by decide +kernel
theorem dX5_requireIndex_15 : decode cX5_requireIndex 15 = .ok (.invokespecial 250, 3) := by decide +kernel
theorem dX5_requireIndex_18 : decode cX5_requireIndex 18 = .ok (.athrow, 1) := by decide +kernel
theorem dX5_requireIndex_19 : decode cX5_requireIndex 19 = .ok (.return_, 1) := by decide +kernel
theorem dX5_requirePlace_0 : decode cX5_requirePlace 0 = .ok (.iload_n 0, 1) := by decide +kernel
theorem dX5_requirePlace_1 : decode cX5_requirePlace 1 = .ok (.ifCond .ge 13, 3) := by decide +kernel
theorem dX5_requirePlace_4 : decode cX5_requirePlace 4 = .ok (.new 246, 3) := by decide +kernel
theorem dX5_requirePlace_7 : decode cX5_requirePlace 7 = .ok (.dup, 1) := by decide +kernel
theorem dX5_requirePlace_8 : decode cX5_requirePlace 8 = .ok (.ldc 253, 2) := by decide +kernel
theorem dX5_requirePlace_10 : decode cX5_requirePlace 10 = .ok (.invokespecial 250, 3) := by decide +kernel
theorem dX5_requirePlace_13 : decode cX5_requirePlace 13 = .ok (.athrow, 1) := by decide +kernel
theorem dX5_requirePlace_14 : decode cX5_requirePlace 14 = .ok (.return_, 1) := by decide +kernel
theorem dX5_requireRange_0 : decode cX5_requireRange 0 = .ok (.iload_n 0, 1) := by decide +kernel
theorem dX5_requireRange_1 : decode cX5_requireRange 1 = .ok (.iload_n 1, 1) := by decide +kernel
theorem dX5_requireRange_2 : decode cX5_requireRange 2 = .ok (.if_icmp .lt 8, 3) := by decide +kernel
theorem dX5_requireRange_5 : decode cX5_requireRange 5 = .ok (.iload_n 0, 1) := by decide +kernel
theorem dX5_requireRange_6 : decode cX5_requireRange 6 = .ok (.iload_n 2, 1) := by decide +kernel
theorem dX5_requireRange_7 : decode cX5_requireRange 7 = .ok (.if_icmp .le 14, 3) := by decide +kernel
theorem dX5_requireRange_10 : decode cX5_requireRange 10 = .ok (.new 255, 3) := by decide +kernel
theorem dX5_requireRange_13 : decode cX5_requireRange 13 = .ok (.dup, 1) := by decide +kernel
theorem dX5_requireRange_14 : decode cX5_requireRange 14 = .ok (.ldc_w 257, 3) := by decide +kernel
theorem dX5_requireRange_17 : decode cX5_requireRange 17 = .ok (.invokespecial 259, 3) := by decide +kernel
theorem dX5_requireRange_20 : decode cX5_requireRange 20 = .ok (.athrow, 1) := by decide +kernel
theorem dX5_requireRange_21 : decode cX5_requireRange 21 = .ok (.return_, 1) := by decide +kernel
theorem dX5_requireState_0 : decode cX5_requireState 0 = .ok (.iload_n 0, 1) := by decide +kernel
theorem dX5_requireState_1 : decode cX5_requireState 1 = .ok (.ifCond .ne 14, 3) := by decide +kernel
theorem dX5_requireState_4 : decode cX5_requireState 4 = .ok (.new 260, 3) := by decide +kernel
theorem dX5_requireState_7 : decode cX5_requireState 7 = .ok (.dup, 1) := by decide +kernel
theorem dX5_requireState_8 : decode cX5_requireState 8 = .ok (.ldc_w 262, 3) := by decide +kernel
theorem dX5_requireState_11 : decode cX5_requireState 11 = .ok (.invokespecial 264, 3) := by decide +kernel
theorem dX5_requireState_14 : decode cX5_requireState 14 = .ok (.athrow, 1) := by decide +kernel
theorem dX5_requireState_15 : decode cX5_requireState 15 = .ok (.return_, 1) := by decide +kernel
theorem dX5_requireTwoBrokers_0 : decode cX5_requireTwoBrokers 0 = .ok (.iload_n 1, 1) := by decide +kernel
theorem dX5_requireTwoBrokers_1 : decode cX5_requireTwoBrokers 1 = .ok (.aload_n 0, 1) := by decide +kernel
theorem dX5_requireTwoBrokers_2 : decode cX5_requireTwoBrokers 2 = .ok (.getfield 66, 3) := by decide +kernel
theorem dX5_requireTwoBrokers_5 : decode cX5_requireTwoBrokers 5 = .ok (.invokestatic 58, 3) := by decide +kernel
theorem dX5_requireTwoBrokers_8 : decode cX5_requireTwoBrokers 8 = .ok (.iload_n 2, 1) := by decide +kernel
theorem dX5_requireTwoBrokers_9 : decode cX5_requireTwoBrokers 9 = .ok (.aload_n 0, 1) := by decide +kernel
theorem dX5_requireTwoBrokers_10 : decode cX5_requireTwoBrokers 10 = .ok (.getfield 66, 3) := by decide +kernel
theorem dX5_requireTwoBrokers_13 : decode cX5_requireTwoBrokers 13 = .ok (.invokestatic 58, 3) := by decide +kernel
theorem dX5_requireTwoBrokers_16 : decode cX5_requireTwoBrokers 16 = .ok (.iload_n 1, 1) := by decide +kernel
theorem dX5_requireTwoBrokers_17 : decode cX5_requireTwoBrokers 17 = .ok (.iload_n 2, 1) := by decide +kernel
theorem dX5_requireTwoBrokers_18 : decode cX5_requireTwoBrokers 18 = .ok (.if_icmp .ne 14, 3) := by decide +kernel
theorem dX5_requireTwoBrokers_21 : decode cX5_requireTwoBrokers 21 = .ok (.new 255, 3) := by decide +kernel
theorem dX5_requireTwoBrokers_24 : decode cX5_requireTwoBrokers 24 = .ok (.dup, 1) := by decide +kernel
theorem dX5_requireTwoBrokers_25 : decode cX5_requireTwoBrokers 25 = .ok (.ldc_w 265, 3) := by decide +kernel
theorem dX5_requireTwoBrokers_28 : decode cX5_requireTwoBrokers 28 = .ok (.invokespecial 259, 3) := by decide +kernel
theorem dX5_requireTwoBrokers_31 : decode cX5_requireTwoBrokers 31 = .ok (.athrow, 1) := by decide +kernel
theorem dX5_requireTwoBrokers_32 : decode cX5_requireTwoBrokers 32 = .ok (.return_, 1) := by decide +kernel
theorem dX5_findWay_0 : decode cX5_findWay 0 = .ok (.aload_n 0, 1) := by decide +kernel
theorem dX5_findWay_1 : decode cX5_findWay 1 = .ok (.getfield 42, 3) := by decide +kernel
theorem dX5_findWay_4 : decode cX5_findWay 4 = .ok (.aload_n 0, 1) := by decide +kernel
theorem dX5_findWay_5 : decode cX5_findWay 5 = .ok (.getfield 66, 3) := by decide +kernel
theorem dX5_findWay_8 : decode cX5_findWay 8 = .ok (.iload_n 3, 1) := by decide +kernel
theorem dX5_findWay_9 : decode cX5_findWay 9 = .ok (.aload_n 0, 1) := by decide +kernel
theorem dX5_findWay_10 : decode cX5_findWay 10 = .ok (.getfield 93, 3) := by decide +kernel
theorem dX5_findWay_13 : decode cX5_findWay 13 = .ok (.invokevirtual 267, 3) := by decide +kernel
theorem dX5_findWay_16 : decode cX5_findWay 16 = .ok (.aload_n 0, 1) := by decide +kernel
theorem dX5_findWay_17 : decode cX5_findWay 17 = .ok (.getfield 42, 3) := by decide +kernel
theorem dX5_findWay_20 : decode cX5_findWay 20 = .ok (.iload_n 1, 1) := by decide +kernel
theorem dX5_findWay_21 : decode cX5_findWay 21 = .ok (.iload_n 2, 1) := by decide +kernel
theorem dX5_findWay_22 : decode cX5_findWay 22 = .ok (.invokevirtual 271, 3) := by decide +kernel
theorem dX5_findWay_25 : decode cX5_findWay 25 = .ok (.ireturn, 1) := by decide +kernel
theorem dX5_letArise_0 : decode cX5_letArise 0 = .ok (.aload_n 1, 1) := by decide +kernel
theorem dX5_letArise_1 : decode cX5_letArise 1 = .ok (.getfield 221, 3) := by decide +kernel
theorem dX5_letArise_4 : decode cX5_letArise 4 = .ok (.istore_n 2, 1) := by decide +kernel
theorem dX5_letArise_5 : decode cX5_letArise 5 = .ok (.iload_n 2, 1) := by decide +kernel
theorem dX5_letArise_6 : decode cX5_letArise 6 = .ok (.aload_n 1, 1) := by decide +kernel
theorem dX5_letArise_7 : decode cX5_letArise 7 = .ok (.getfield 275, 3) := by decide +kernel
theorem dX5_letArise_10 : decode cX5_letArise 10 = .ok (.iconst 1, 1) := by decide +kernel
theorem dX5_letArise_11 : decode cX5_letArise 11 = .ok (.isub, 1) := by decide +kernel
theorem dX5_letArise_12 : decode cX5_letArise 12 = .ok (.if_icmp .ge 60, 3) := by decide +kernel
theorem dX5_letArise_15 : decode cX5_letArise 15 = .ok (.aload_n 1, 1) := by decide +kernel
theorem dX5_letArise_16 : decode cX5_letArise 16 = .ok (.getfield 276, 3) := by decide +kernel
theorem dX5_letArise_19 : decode cX5_letArise 19 = .ok (.iload_n 2, 1) := by decide +kernel
theorem dX5_letArise_20 : decode cX5_letArise 20 = .ok (.iaload, 1) := by decide +kernel
theorem dX5_letArise_21 : decode cX5_letArise 21 = .ok (.istore_n 3, 1) := by decide +kernel
theorem dX5_letArise_22 : decode cX5_letArise 22 = .ok (.aload_n 1, 1) := by decide +kernel
theorem dX5_letArise_23 : decode cX5_letArise 23 = .ok (.getfield 276, 3) := by decide +kernel
theorem dX5_letArise_26 : decode cX5_letArise 26 = .ok (.iload_n 2, 1) := by decide +kernel
theorem dX5_letArise_27 : decode cX5_letArise 27 = .ok (.iconst 1, 1) := by decide +kernel
theorem dX5_letArise_28 : decode cX5_letArise 28 = .ok (.iadd, 1) := by decide +kernel
theorem dX5_letArise_29 : decode cX5_letArise 29 = .ok (.iaload, 1) := by decide +kernel
theorem dX5_letArise_30 : decode cX5_letArise 30 = .ok (.istore 4, 2) := by decide +kernel
theorem dX5_letArise_32 : decode cX5_letArise 32 = .ok (.aload_n 0, 1) := by decide +kernel
theorem dX5_letArise_33 : decode cX5_letArise 33 = .ok (.getfield 33, 3) := by decide +kernel
theorem dX5_letArise_36 : decode cX5_letArise 36 = .ok (.iload_n 3, 1) := by decide +kernel
theorem dX5_letArise_37 : decode cX5_letArise 37 = .ok (.iload 4, 2) := by decide +kernel
theorem dX5_letArise_39 : decode cX5_letArise 39 = .ok (.aload_n 1, 1) := by decide +kernel
theorem dX5_letArise_40 : decode cX5_letArise 40 = .ok (.getfield 278, 3) := by decide +kernel
theorem dX5_letArise_43 : decode cX5_letArise 43 = .ok (.iload_n 2, 1) := by decide +kernel
theorem dX5_letArise_44 : decode cX5_letArise 44 = .ok (.iaload, 1) := by decide +kernel
theorem dX5_letArise_45 : decode cX5_letArise 45 = .ok (.i2l, 1) := by decide +kernel
theorem dX5_letArise_46 : decode cX5_letArise 46 = .ok (.invokevirtual 281, 3) := by decide +kernel
theorem dX5_letArise_49 : decode cX5_letArise 49 = .ok (.aload_n 0, 1) := by decide +kernel
theorem dX5_letArise_50 : decode cX5_letArise 50 = .ok (.getfield 33, 3) := by decide +kernel
theorem dX5_letArise_53 : decode cX5_letArise 53 = .ok (.iload_n 3, 1) := by decide +kernel
theorem dX5_letArise_54 : decode cX5_letArise 54 = .ok (.iload 4, 2) := by decide +kernel
theorem dX5_letArise_56 : decode cX5_letArise 56 = .ok (.aload_n 1, 1) := by decide +kernel
theorem dX5_letArise_57 : decode cX5_letArise 57 = .ok (.getfield 278, 3) := by decide +kernel
theorem dX5_letArise_60 : decode cX5_letArise 60 = .ok (.iload_n 2, 1) := by decide +kernel
theorem dX5_letArise_61 : decode cX5_letArise 61 = .ok (.iaload, 1) := by decide +kernel
theorem dX5_letArise_62 : decode cX5_letArise 62 = .ok (.i2l, 1) := by decide +kernel
theorem dX5_letArise_63 : decode cX5_letArise 63 = .ok (.invokevirtual 284, 3) := by decide +kernel
theorem dX5_letArise_66 : decode cX5_letArise 66 = .ok (.iinc 2 1, 3) := by decide +kernel
theorem dX5_letArise_69 : decode cX5_letArise 69 = .ok (.goto (-64), 3) := by decide +kernel
theorem dX5_letArise_72 : decode cX5_letArise 72 = .ok (.return_, 1) := by decide +kernel
theorem dX5_takeBack_0 : decode cX5_takeBack 0 = .ok (.iload_n 2, 1) := by decide +kernel
theorem dX5_takeBack_1 : decode cX5_takeBack 1 = .ok (.istore 4, 2) := by decide +kernel
theorem dX5_takeBack_3 : decode cX5_takeBack 3 = .ok (.iload 4, 2) := by decide +kernel
theorem dX5_takeBack_5 : decode cX5_takeBack 5 = .ok (.iload_n 3, 1) := by decide +kernel
theorem dX5_takeBack_6 : decode cX5_takeBack 6 = .ok (.if_icmp .ge 97, 3) := by decide +kernel
theorem dX5_takeBack_9 : decode cX5_takeBack 9 = .ok (.aload_n 1, 1) := by decide +kernel
theorem dX5_takeBack_10 : decode cX5_takeBack 10 = .ok (.getfield 276, 3) := by decide +kernel
theorem dX5_takeBack_13 : decode cX5_takeBack 13 = .ok (.iload 4, 2) := by decide +kernel
theorem dX5_takeBack_15 : decode cX5_takeBack 15 = .ok (.iaload, 1) := by decide +kernel
theorem dX5_takeBack_16 : decode cX5_takeBack 16 = .ok (.istore 5, 2) := by decide +kernel
theorem dX5_takeBack_18 : decode cX5_takeBack 18 = .ok (.aload_n 1, 1) := by decide +kernel
theorem dX5_takeBack_19 : decode cX5_takeBack 19 = .ok (.getfield 276, 3) := by decide +kernel
theorem dX5_takeBack_22 : decode cX5_takeBack 22 = .ok (.iload 4, 2) := by decide +kernel
theorem dX5_takeBack_24 : decode cX5_takeBack 24 = .ok (.iconst 1, 1) := by decide +kernel
theorem dX5_takeBack_25 : decode cX5_takeBack 25 = .ok (.iadd, 1) := by decide +kernel
theorem dX5_takeBack_26 : decode cX5_takeBack 26 = .ok (.iaload, 1) := by decide +kernel
theorem dX5_takeBack_27 : decode cX5_takeBack 27 = .ok (.istore 6, 2) := by decide +kernel
theorem dX5_takeBack_29 : decode cX5_takeBack 29 = .ok (.aload_n 0, 1) := by decide +kernel
theorem dX5_takeBack_30 : decode cX5_takeBack 30 = .ok (.getfield 33, 3) := by decide +kernel
theorem dX5_takeBack_33 : decode cX5_takeBack 33 = .ok (.iload 5, 2) := by decide +kernel
theorem dX5_takeBack_35 : decode cX5_takeBack 35 = .ok (.iload 6, 2) := by decide +kernel
theorem dX5_takeBack_37 : decode cX5_takeBack 37 = .ok (.aload_n 1, 1) := by decide +kernel
theorem dX5_takeBack_38 : decode cX5_takeBack 38 = .ok (.getfield 278, 3) := by decide +kernel
theorem dX5_takeBack_41 : decode cX5_takeBack 41 = .ok (.iload 4, 2) := by decide +kernel
theorem dX5_takeBack_43 : decode cX5_takeBack 43 = .ok (.iaload, 1) := by decide +kernel
theorem dX5_takeBack_44 : decode cX5_takeBack 44 = .ok (.ineg, 1) := by decide +kernel
theorem dX5_takeBack_45 : decode cX5_takeBack 45 = .ok (.i2l, 1) := by decide +kernel
theorem dX5_takeBack_46 : decode cX5_takeBack 46 = .ok (.invokevirtual 281, 3) := by decide +kernel
theorem dX5_takeBack_49 : decode cX5_takeBack 49 = .ok (.aload_n 0, 1) := by decide +kernel
theorem dX5_takeBack_50 : decode cX5_takeBack 50 = .ok (.getfield 33, 3) := by decide +kernel
theorem dX5_takeBack_53 : decode cX5_takeBack 53 = .ok (.iload 5, 2) := by decide +kernel
theorem dX5_takeBack_55 : decode cX5_takeBack 55 = .ok (.iload 6, 2) := by decide +kernel
theorem dX5_takeBack_57 : decode cX5_takeBack 57 = .ok (.aload_n 1, 1) := by decide +kernel
theorem dX5_takeBack_58 : decode cX5_takeBack 58 = .ok (.getfield 278, 3) := by decide +kernel
theorem dX5_takeBack_61 : decode cX5_takeBack 61 = .ok (.iload 4, 2) := by decide +kernel
theorem dX5_takeBack_63 : decode cX5_takeBack 63 = .ok (.iaload, 1) := by decide +kernel
theorem dX5_takeBack_64 : decode cX5_takeBack 64 = .ok (.ineg, 1) := by decide +kernel
theorem dX5_takeBack_65 : decode cX5_takeBack 65 = .ok (.i2l, 1) := by decide +kernel
theorem dX5_takeBack_66 : decode cX5_takeBack 66 = .ok (.invokevirtual 284, 3) := by decide +kernel
theorem dX5_takeBack_69 : decode cX5_takeBack 69 = .ok (.iload 4, 2) := by decide +kernel
theorem dX5_takeBack_71 : decode cX5_takeBack 71 = .ok (.aload_n 1, 1) := by decide +kernel
theorem dX5_takeBack_72 : decode cX5_takeBack 72 = .ok (.getfield 221, 3) := by decide +kernel
theorem dX5_takeBack_75 : decode cX5_takeBack 75 = .ok (.if_icmp .ge 22, 3) := by decide +kernel
theorem dX5_takeBack_78 : decode cX5_takeBack 78 = .ok (.aload_n 0, 1) := by decide +kernel
theorem dX5_takeBack_79 : decode cX5_takeBack 79 = .ok (.getfield 33, 3) := by decide +kernel
theorem dX5_takeBack_82 : decode cX5_takeBack 82 = .ok (.iload 6, 2) := by decide +kernel
theorem dX5_takeBack_84 : decode cX5_takeBack 84 = .ok (.iload 5, 2) := by decide +kernel
theorem dX5_takeBack_86 : decode cX5_takeBack 86 = .ok (.aload_n 1, 1) := by decide +kernel
theorem dX5_takeBack_87 : decode cX5_takeBack 87 = .ok (.getfield 278, 3) := by decide +kernel
theorem dX5_takeBack_90 : decode cX5_takeBack 90 = .ok (.iload 4, 2) := by decide +kernel
theorem dX5_takeBack_92 : decode cX5_takeBack 92 = .ok (.iaload, 1) := by decide +kernel
theorem dX5_takeBack_93 : decode cX5_takeBack 93 = .ok (.i2l, 1) := by decide +kernel
theorem dX5_takeBack_94 : decode cX5_takeBack 94 = .ok (.invokevirtual 284, 3) := by decide +kernel
theorem dX5_takeBack_97 : decode cX5_takeBack 97 = .ok (.iinc 4 1, 3) := by decide +kernel
theorem dX5_takeBack_100 : decode cX5_takeBack 100 = .ok (.goto (-97), 3) := by decide +kernel
theorem dX5_takeBack_103 : decode cX5_takeBack 103 = .ok (.return_, 1) := by decide +kernel
theorem dX5_goBack_0 : decode cX5_goBack 0 = .ok (.aload_n 0, 1) := by decide +kernel
theorem dX5_goBack_1 : decode cX5_goBack 1 = .ok (.aload_n 1, 1) := by decide +kernel
theorem dX5_goBack_2 : decode cX5_goBack 2 = .ok (.iconst 0, 1) := by decide +kernel
theorem dX5_goBack_3 : decode cX5_goBack 3 = .ok (.aload_n 1, 1) := by decide +kernel
theorem dX5_goBack_4 : decode cX5_goBack 4 = .ok (.getfield 275, 3) := by decide +kernel
theorem dX5_goBack_7 : decode cX5_goBack 7 = .ok (.iconst 1, 1) := by decide +kernel
theorem dX5_goBack_8 : decode cX5_goBack 8 = .ok (.isub, 1) := by decide +kernel
theorem dX5_goBack_9 : decode cX5_goBack 9 = .ok (.invokevirtual 287, 3) := by decide +kernel
theorem dX5_goBack_12 : decode cX5_goBack 12 = .ok (.aload_n 0, 1) := by decide +kernel
theorem dX5_goBack_13 : decode cX5_goBack 13 = .ok (.aload_n 1, 1) := by decide +kernel
theorem dX5_goBack_14 : decode cX5_goBack 14 = .ok (.invokevirtual 291, 3) := by decide +kernel
theorem dX5_goBack_17 : decode cX5_goBack 17 = .ok (.return_, 1) := by decide +kernel
theorem dX5_endForward_0 : decode cX5_endForward 0 = .ok (.aload_n 1, 1) := by decide +kernel
theorem dX5_endForward_1 : decode cX5_endForward 1 = .ok (.aload_n 0, 1) := by decide +kernel
theorem dX5_endForward_2 : decode cX5_endForward 2 = .ok (.getfield 11, 3) := by decide +kernel
theorem dX5_endForward_5 : decode cX5_endForward 5 = .ok (.aload_n 1, 1) := by decide +kernel
theorem dX5_endForward_6 : decode cX5_endForward 6 = .ok (.invokevirtual 294, 3) := by decide +kernel
theorem dX5_endForward_9 : decode cX5_endForward 9 = .ok (.aaload, 1) := by decide +kernel
theorem dX5_endForward_10 : decode cX5_endForward 10 = .ok (.getfield 97, 3) := by decide +kernel
theorem dX5_endForward_13 : decode cX5_endForward 13 = .ok (.iconst 2, 1) := by decide +kernel
theorem dX5_endForward_14 : decode cX5_endForward 14 = .ok (.if_icmp .ne 7, 3) := by decide +kernel
theorem dX5_endForward_17 : decode cX5_endForward 17 = .ok (.iconst 5, 1) := by decide +kernel
theorem dX5_endForward_18 : decode cX5_endForward 18 = .ok (.goto 4, 3) := by decide +kernel
theorem dX5_endForward_21 : decode cX5_endForward 21 = .ok (.iconst 3, 1) := by decide +kernel
theorem dX5_endForward_22 : decode cX5_endForward 22 = .ok (.putfield 140, 3) := by decide +kernel
theorem dX5_endForward_25 : decode cX5_endForward 25 = .ok (.return_, 1) := by decide +kernel
theorem dX5_loseOrdersFrom_0 : decode cX5_loseOrdersFrom 0 = .ok (.iconst 0, 1) := by decide +kernel
theorem dX5_loseOrdersFrom_1 : decode cX5_loseOrdersFrom 1 = .ok (.istore_n 2, 1) := by decide +kernel
theorem dX5_loseOrdersFrom_2 : decode cX5_loseOrdersFrom 2 = .ok (.iconst 0, 1) := by decide +kernel
theorem dX5_loseOrdersFrom_3 : decode cX5_loseOrdersFrom 3 = .ok (.istore_n 3, 1) := by decide +kernel
theorem dX5_loseOrdersFrom_4 : decode cX5_loseOrdersFrom 4 = .ok (.iload_n 3, 1) := by decide +kernel
theorem dX5_loseOrdersFrom_5 : decode cX5_loseOrdersFrom 5 = .ok (.aload_n 0, 1) := by decide +kernel
theorem dX5_loseOrdersFrom_6 : decode cX5_loseOrdersFrom 6 = .ok (.getfield 124, 3) := by decide +kernel
theorem dX5_loseOrdersFrom_9 : decode cX5_loseOrdersFrom 9 = .ok (.if_icmp .ge 74, 3) := by decide +kernel
theorem dX5_loseOrdersFrom_12 : decode cX5_loseOrdersFrom 12 = .ok (.aload_n 0, 1) := by decide +kernel
theorem dX5_loseOrdersFrom_13 : decode cX5_loseOrdersFrom 13 = .ok (.getfield 18, 3) := by decide +kernel
theorem dX5_loseOrdersFrom_16 : decode cX5_loseOrdersFrom 16 = .ok (.iload_n 3, 1) := by decide +kernel
theorem dX5_loseOrdersFrom_17 : decode cX5_loseOrdersFrom 17 = .ok (.aaload, 1) := by decide +kernel
theorem dX5_loseOrdersFrom_18 : decode cX5_loseOrdersFrom 18 = .ok (.astore 4, 2) := by decide +kernel
theorem dX5_loseOrdersFrom_20 : decode cX5_loseOrdersFrom 20 = .ok (.aload 4, 2) := by decide +kernel
theorem dX5_loseOrdersFrom_22 : decode cX5_loseOrdersFrom 22 = .ok (.invokevirtual 294, 3) := by decide +kernel
theorem dX5_loseOrdersFrom_25 : decode cX5_loseOrdersFrom 25 = .ok (.iload_n 1, 1) := by decide +kernel
theorem dX5_loseOrdersFrom_26 : decode cX5_loseOrdersFrom 26 = .ok (.if_icmp .ne 51, 3) := by decide +kernel
theorem dX5_loseOrdersFrom_29 : decode cX5_loseOrdersFrom 29 = .ok (.aload 4, 2) := by decide +kernel
theorem dX5_loseOrdersFrom_31 : decode cX5_loseOrdersFrom 31 = .ok (.getfield 140, 3) := by decide +kernel
theorem dX5_loseOrdersFrom_34 : decode cX5_loseOrdersFrom 34 = .ok (.ifCond .eq 12, 3) := by decide +kernel
theorem dX5_loseOrdersFrom_37 : decode cX5_loseOrdersFrom 37 = .ok (.aload 4, 2) := by decide +kernel
theorem dX5_loseOrdersFrom_39 : decode cX5_loseOrdersFrom 39 = .ok (.getfield 140, 3) := by decide +kernel
theorem dX5_loseOrdersFrom_42 : decode cX5_loseOrdersFrom 42 = .ok (.iconst 3, 1) := by decide +kernel
theorem dX5_loseOrdersFrom_43 : decode cX5_loseOrdersFrom 43 = .ok (.if_icmp .ne 34, 3) := by decide +kernel
theorem dX5_loseOrdersFrom_46 : decode cX5_loseOrdersFrom 46 = .ok (.aload 4, 2) := by decide +kernel
theorem dX5_loseOrdersFrom_48 : decode cX5_loseOrdersFrom 48 = .ok (.getfield 140, 3) := by decide +kernel
theorem dX5_loseOrdersFrom_51 : decode cX5_loseOrdersFrom 51 = .ok (.ifCond .ne 17, 3) := by decide +kernel
theorem dX5_loseOrdersFrom_54 : decode cX5_loseOrdersFrom 54 = .ok (.aload_n 0, 1) := by decide +kernel
theorem dX5_loseOrdersFrom_55 : decode cX5_loseOrdersFrom 55 = .ok (.aload 4, 2) := by decide +kernel
theorem dX5_loseOrdersFrom_57 : decode cX5_loseOrdersFrom 57 = .ok (.iconst 0, 1) := by decide +kernel
theorem dX5_loseOrdersFrom_58 : decode cX5_loseOrdersFrom 58 = .ok (.aload 4, 2) := by decide +kernel
theorem dX5_loseOrdersFrom_60 : decode cX5_loseOrdersFrom 60 = .ok (.getfield 275, 3) := by decide +kernel
theorem dX5_loseOrdersFrom_63 : decode cX5_loseOrdersFrom 63 = .ok (.iconst 1, 1) := by decide +kernel
theorem dX5_loseOrdersFrom_64 : decode cX5_loseOrdersFrom 64 = .ok (.isub, 1) := by decide +kernel
theorem dX5_loseOrdersFrom_65 : decode cX5_loseOrdersFrom 65 = .ok (.invokevirtual 287, 3) := by decide +kernel
theorem dX5_loseOrdersFrom_68 : decode cX5_loseOrdersFrom 68 = .ok (.aload 4, 2) := by decide +kernel
theorem dX5_loseOrdersFrom_70 : decode cX5_loseOrdersFrom 70 = .ok (.iconst 5, 1) := by decide +kernel
theorem dX5_loseOrdersFrom_71 : decode cX5_loseOrdersFrom 71 = .ok (.putfield 140, 3) := by decide +kernel
theorem dX5_loseOrdersFrom_74 : decode cX5_loseOrdersFrom 74 = .ok (.iinc 2 1, 3) := by decide +kernel
theorem dX5_loseOrdersFrom_77 : decode cX5_loseOrdersFrom 77 = .ok (.iinc 3 1, 3) := by decide +kernel
theorem dX5_loseOrdersFrom_80 : decode cX5_loseOrdersFrom 80 = .ok (.goto (-76), 3) := by decide +kernel
theorem dX5_loseOrdersFrom_83 : decode cX5_loseOrdersFrom 83 = .ok (.iload_n 2, 1) := by decide +kernel
theorem dX5_loseOrdersFrom_84 : decode cX5_loseOrdersFrom 84 = .ok (.ireturn, 1) := by decide +kernel
theorem dX5_avoid_0 : decode cX5_avoid 0 = .ok (.iconst 0, 1) := by decide +kernel
theorem dX5_avoid_1 : decode cX5_avoid 1 = .ok (.istore_n 2, 1) := by decide +kernel
theorem dX5_avoid_2 : decode cX5_avoid 2 = .ok (.iload_n 2, 1) := by decide +kernel
theorem dX5_avoid_3 : decode cX5_avoid 3 = .ok (.aload_n 0, 1) := by decide +kernel
theorem dX5_avoid_4 : decode cX5_avoid 4 = .ok (.getfield 124, 3) := by decide +kernel
theorem dX5_avoid_7 : decode cX5_avoid 7 = .ok (.if_icmp .ge 44, 3) := by decide +kernel
theorem dX5_avoid_10 : decode cX5_avoid 10 = .ok (.aload_n 0, 1) := by decide +kernel
theorem dX5_avoid_11 : decode cX5_avoid 11 = .ok (.getfield 18, 3) := by decide +kernel
theorem dX5_avoid_14 : decode cX5_avoid 14 = .ok (.iload_n 2, 1) := by decide +kernel
theorem dX5_avoid_15 : decode cX5_avoid 15 = .ok (.aaload, 1) := by decide +kernel
theorem dX5_avoid_16 : decode cX5_avoid 16 = .ok (.getfield 140, 3) := by decide +kernel
theorem dX5_avoid_19 : decode cX5_avoid 19 = .ok (.ifCond .ne 26, 3) := by decide +kernel
theorem dX5_avoid_22 : decode cX5_avoid 22 = .ok (.aload_n 0, 1) := by decide +kernel
theorem dX5_avoid_23 : decode cX5_avoid 23 = .ok (.getfield 18, 3) := by decide +kernel
theorem dX5_avoid_26 : decode cX5_avoid 26 = .ok (.iload_n 2, 1) := by decide +kernel
theorem dX5_avoid_27 : decode cX5_avoid 27 = .ok (.aaload, 1) := by decide +kernel
theorem dX5_avoid_28 : decode cX5_avoid 28 = .ok (.iload_n 1, 1) := by decide +kernel
theorem dX5_avoid_29 : decode cX5_avoid 29 = .ok (.invokevirtual 297, 3) := by decide +kernel
theorem dX5_avoid_32 : decode cX5_avoid 32 = .ok (.ifCond .eq 13, 3) := by decide +kernel
theorem dX5_avoid_35 : decode cX5_avoid 35 = .ok (.aload_n 0, 1) := by decide +kernel
theorem dX5_avoid_36 : decode cX5_avoid 36 = .ok (.aload_n 0, 1) := by decide +kernel
theorem dX5_avoid_37 : decode cX5_avoid 37 = .ok (.getfield 18, 3) := by decide +kernel
theorem dX5_avoid_40 : decode cX5_avoid 40 = .ok (.iload_n 2, 1) := by decide +kernel
theorem dX5_avoid_41 : decode cX5_avoid 41 = .ok (.aaload, 1) := by decide +kernel
theorem dX5_avoid_42 : decode cX5_avoid 42 = .ok (.invokevirtual 301, 3) := by decide +kernel
theorem dX5_avoid_45 : decode cX5_avoid 45 = .ok (.iinc 2 1, 3) := by decide +kernel
theorem dX5_avoid_48 : decode cX5_avoid 48 = .ok (.goto (-46), 3) := by decide +kernel
theorem dX5_avoid_51 : decode cX5_avoid 51 = .ok (.return_, 1) := by decide +kernel
theorem dX5_lookAnew_0 : decode cX5_lookAnew 0 = .ok (.aload_n 1, 1) := by decide +kernel
theorem dX5_lookAnew_1 : decode cX5_lookAnew 1 = .ok (.getfield 221, 3) := by decide +kernel
theorem dX5_lookAnew_4 : decode cX5_lookAnew 4 = .ok (.istore_n 2, 1) := by decide +kernel
theorem dX5_lookAnew_5 : decode cX5_lookAnew 5 = .ok (.aload_n 1, 1) := by decide +kernel
theorem dX5_lookAnew_6 : decode cX5_lookAnew 6 = .ok (.getfield 278, 3) := by decide +kernel
theorem dX5_lookAnew_9 : decode cX5_lookAnew 9 = .ok (.iload_n 2, 1) := by decide +kernel
theorem dX5_lookAnew_10 : decode cX5_lookAnew 10 = .ok (.iaload, 1) := by decide +kernel
theorem dX5_lookAnew_11 : decode cX5_lookAnew 11 = .ok (.aload_n 1, 1) := by decide +kernel
theorem dX5_lookAnew_12 : decode cX5_lookAnew 12 = .ok (.getfield 131, 3) := by decide +kernel
theorem dX5_lookAnew_15 : decode cX5_lookAnew 15 = .ok (.isub, 1) := by decide +kernel
theorem dX5_lookAnew_16 : decode cX5_lookAnew 16 = .ok (.istore_n 3, 1) := by decide +kernel
theorem dX5_lookAnew_17 : decode cX5_lookAnew 17 = .ok (.aload_n 0, 1) := by decide +kernel
theorem dX5_lookAnew_18 : decode cX5_lookAnew 18 = .ok (.aload_n 1, 1) := by decide +kernel
theorem dX5_lookAnew_19 : decode cX5_lookAnew 19 = .ok (.iload_n 2, 1) := by decide +kernel
theorem dX5_lookAnew_20 : decode cX5_lookAnew 20 = .ok (.aload_n 1, 1) := by decide +kernel
theorem dX5_lookAnew_21 : decode cX5_lookAnew 21 = .ok (.getfield 275, 3) := by decide +kernel
theorem dX5_lookAnew_24 : decode cX5_lookAnew 24 = .ok (.iconst 1, 1) := by decide +kernel
theorem dX5_lookAnew_25 : decode cX5_lookAnew 25 = .ok (.isub, 1) := by decide +kernel
theorem dX5_lookAnew_26 : decode cX5_lookAnew 26 = .ok (.invokevirtual 287, 3) := by decide +kernel
theorem dX5_lookAnew_29 : decode cX5_lookAnew 29 = .ok (.aload_n 0, 1) := by decide +kernel
theorem dX5_lookAnew_30 : decode cX5_lookAnew 30 = .ok (.getfield 42, 3) := by decide +kernel
theorem dX5_lookAnew_33 : decode cX5_lookAnew 33 = .ok (.aload_n 0, 1) := by decide +kernel
theorem dX5_lookAnew_34 : decode cX5_lookAnew 34 = .ok (.getfield 66, 3) := by decide +kernel
theorem dX5_lookAnew_37 : decode cX5_lookAnew 37 = .ok (.aload_n 1, 1) := by decide +kernel
theorem dX5_lookAnew_38 : decode cX5_lookAnew 38 = .ok (.getfield 131, 3) := by decide +kernel
theorem dX5_lookAnew_41 : decode cX5_lookAnew 41 = .ok (.aload_n 0, 1) := by decide +kernel
theorem dX5_lookAnew_42 : decode cX5_lookAnew 42 = .ok (.getfield 93, 3) := by decide +kernel
theorem dX5_lookAnew_45 : decode cX5_lookAnew 45 = .ok (.invokevirtual 267, 3) := by decide +kernel
theorem dX5_lookAnew_48 : decode cX5_lookAnew 48 = .ok (.iconst 0, 1) := by decide +kernel
theorem dX5_lookAnew_49 : decode cX5_lookAnew 49 = .ok (.istore 4, 2) := by decide +kernel
theorem dX5_lookAnew_51 : decode cX5_lookAnew 51 = .ok (.iload 4, 2) := by decide +kernel
theorem dX5_lookAnew_53 : decode cX5_lookAnew 53 = .ok (.iload_n 2, 1) := by decide +kernel
theorem dX5_lookAnew_54 : decode cX5_lookAnew 54 = .ok (.if_icmp .ge 23, 3) := by decide +kernel
theorem dX5_lookAnew_57 : decode cX5_lookAnew 57 = .ok (.aload_n 0, 1) := by decide +kernel
theorem dX5_lookAnew_58 : decode cX5_lookAnew 58 = .ok (.getfield 42, 3) := by decide +kernel
theorem dX5_lookAnew_61 : decode cX5_lookAnew 61 = .ok (.aload_n 1, 1) := by decide +kernel
theorem dX5_lookAnew_62 : decode cX5_lookAnew 62 = .ok (.getfield 276, 3) := by decide +kernel
theorem dX5_lookAnew_65 : decode cX5_lookAnew 65 = .ok (.iload 4, 2) := by decide +kernel
theorem dX5_lookAnew_67 : decode cX5_lookAnew 67 = .ok (.iaload, 1) := by decide +kernel
theorem dX5_lookAnew_68 : decode cX5_lookAnew 68 = .ok (.invokevirtual 304, 3) := by decide +kernel
theorem dX5_lookAnew_71 : decode cX5_lookAnew 71 = .ok (.iinc 4 1, 3) := by decide +kernel
theorem dX5_lookAnew_74 : decode cX5_lookAnew 74 = .ok (.goto (-23), 3) := by decide +kernel
theorem dX5_lookAnew_77 : decode cX5_lookAnew 77 = .ok (.aload_n 0, 1) := by decide +kernel
theorem dX5_lookAnew_78 : decode cX5_lookAnew 78 = .ok (.getfield 42, 3) := by decide +kernel
theorem dX5_lookAnew_81 : decode cX5_lookAnew 81 = .ok (.aload_n 1, 1) := by decide +kernel
theorem dX5_lookAnew_82 : decode cX5_lookAnew 82 = .ok (.getfield 276, 3) := by decide +kernel
theorem dX5_lookAnew_85 : decode cX5_lookAnew 85 = .ok (.iload_n 2, 1) := by decide +kernel
theorem dX5_lookAnew_86 : decode cX5_lookAnew 86 = .ok (.iaload, 1) := by decide +kernel
theorem dX5_lookAnew_87 : decode cX5_lookAnew 87 = .ok (.aload_n 1, 1) := by decide +kernel
theorem dX5_lookAnew_88 : decode cX5_lookAnew 88 = .ok (.invokevirtual 159, 3) := by decide +kernel
theorem dX5_lookAnew_91 : decode cX5_lookAnew 91 = .ok (.invokevirtual 271, 3) := by decide +kernel
theorem dX5_lookAnew_94 : decode cX5_lookAnew 94 = .ok (.ifCond .eq 31, 3) := by decide +kernel
theorem dX5_lookAnew_97 : decode cX5_lookAnew 97 = .ok (.aload_n 0, 1) := by decide +kernel
theorem dX5_lookAnew_98 : decode cX5_lookAnew 98 = .ok (.getfield 42, 3) := by decide +kernel
theorem dX5_lookAnew_101 : decode cX5_lookAnew 101 = .ok (.invokevirtual 307, 3) := by decide +kernel
theorem dX5_lookAnew_104 : decode cX5_lookAnew 104 = .ok (.iload_n 3, 1) := by decide +kernel
theorem dX5_lookAnew_105 : decode cX5_lookAnew 105 = .ok (.if_icmp .gt 20, 3) := by decide +kernel
theorem dX5_lookAnew_108 : decode cX5_lookAnew 108 = .ok (.aload_n 1, 1) := by decide +kernel
theorem dX5_lookAnew_109 : decode cX5_lookAnew 109 = .ok (.aload_n 0, 1) := by decide +kernel
theorem dX5_lookAnew_110 : decode cX5_lookAnew 110 = .ok (.getfield 42, 3) := by decide +kernel
theorem dX5_lookAnew_113 : decode cX5_lookAnew 113 = .ok (.iload_n 2, 1) := by decide +kernel
theorem dX5_lookAnew_114 : decode cX5_lookAnew 114 = .ok (.invokevirtual 148, 3) := by decide +kernel
theorem dX5_lookAnew_117 : decode cX5_lookAnew 117 = .ok (.aload_n 0, 1) := by decide +kernel
theorem dX5_lookAnew_118 : decode cX5_lookAnew 118 = .ok (.aload_n 1, 1) := by decide +kernel
theorem dX5_lookAnew_119 : decode cX5_lookAnew 119 = .ok (.invokevirtual 152, 3) := by decide +kernel
theorem dX5_lookAnew_122 : decode cX5_lookAnew 122 = .ok (.goto 15, 3) := by decide +kernel
theorem dX5_lookAnew_125 : decode cX5_lookAnew 125 = .ok (.aload_n 0, 1) := by decide +kernel
theorem dX5_lookAnew_126 : decode cX5_lookAnew 126 = .ok (.aload_n 1, 1) := by decide +kernel
theorem dX5_lookAnew_127 : decode cX5_lookAnew 127 = .ok (.iconst 0, 1) := by decide +kernel
theorem dX5_lookAnew_128 : decode cX5_lookAnew 128 = .ok (.iload_n 2, 1) := by decide +kernel
theorem dX5_lookAnew_129 : decode cX5_lookAnew 129 = .ok (.invokevirtual 287, 3) := by decide +kernel
theorem dX5_lookAnew_132 : decode cX5_lookAnew 132 = .ok (.aload_n 0, 1) := by decide +kernel
theorem dX5_lookAnew_133 : decode cX5_lookAnew 133 = .ok (.aload_n 1, 1) := by decide +kernel
theorem dX5_lookAnew_134 : decode cX5_lookAnew 134 = .ok (.invokevirtual 291, 3) := by decide +kernel
theorem dX5_lookAnew_137 : decode cX5_lookAnew 137 = .ok (.return_, 1) := by decide +kernel
theorem dX5_tellTown_0 : decode cX5_tellTown 0 = .ok (.iload_n 2, 1) := by decide +kernel
theorem dX5_tellTown_1 : decode cX5_tellTown 1 = .ok (.aload_n 0, 1) := by decide +kernel
theorem dX5_tellTown_2 : decode cX5_tellTown 2 = .ok (.getfield 46, 3) := by decide +kernel
theorem dX5_tellTown_5 : decode cX5_tellTown 5 = .ok (.iload_n 1, 1) := by decide +kernel
theorem dX5_tellTown_6 : decode cX5_tellTown 6 = .ok (.iaload, 1) := by decide +kernel
theorem dX5_tellTown_7 : decode cX5_tellTown 7 = .ok (.if_icmp .le 13, 3) := by decide +kernel
theorem dX5_tellTown_10 : decode cX5_tellTown 10 = .ok (.aload_n 0, 1) := by decide +kernel
theorem dX5_tellTown_11 : decode cX5_tellTown 11 = .ok (.getfield 51, 3) := by decide +kernel
theorem dX5_tellTown_14 : decode cX5_tellTown 14 = .ok (.iload_n 1, 1) := by decide +kernel
theorem dX5_tellTown_15 : decode cX5_tellTown 15 = .ok (.dup2, 1) := by decide +kernel
theorem dX5_tellTown_16 : decode cX5_tellTown 16 = .ok (.iaload, 1) := by decide +kernel
theorem dX5_tellTown_17 : decode cX5_tellTown 17 = .ok (.iconst 1, 1) := by decide +kernel
theorem dX5_tellTown_18 : decode cX5_tellTown 18 = .ok (.iadd, 1) := by decide +kernel
theorem dX5_tellTown_19 : decode cX5_tellTown 19 = .ok (.iastore, 1) := by decide +kernel
theorem dX5_tellTown_20 : decode cX5_tellTown 20 = .ok (.return_, 1) := by decide +kernel
theorem dX5_passHour_0 : decode cX5_passHour 0 = .ok (.aload_n 0, 1) := by decide +kernel
theorem dX5_passHour_1 : decode cX5_passHour 1 = .ok (.dup, 1) := by decide +kernel
theorem dX5_passHour_2 : decode cX5_passHour 2 = .ok (.getfield 112, 3) := by decide +kernel
theorem dX5_passHour_5 : decode cX5_passHour 5 = .ok (.iconst 1, 1) := by decide +kernel
theorem dX5_passHour_6 : decode cX5_passHour 6 = .ok (.iadd, 1) := by decide +kernel
theorem dX5_passHour_7 : decode cX5_passHour 7 = .ok (.putfield 112, 3) := by decide +kernel
theorem dX5_passHour_10 : decode cX5_passHour 10 = .ok (.aload_n 0, 1) := by decide +kernel
theorem dX5_passHour_11 : decode cX5_passHour 11 = .ok (.invokevirtual 310, 3) := by decide +kernel
theorem dX5_passHour_14 : decode cX5_passHour 14 = .ok (.aload_n 0, 1) := by decide +kernel
theorem dX5_passHour_15 : decode cX5_passHour 15 = .ok (.invokevirtual 313, 3) := by decide +kernel
theorem dX5_passHour_18 : decode cX5_passHour 18 = .ok (.aload_n 0, 1) := by decide +kernel
theorem dX5_passHour_19 : decode cX5_passHour 19 = .ok (.invokevirtual 316, 3) := by decide +kernel
theorem dX5_passHour_22 : decode cX5_passHour 22 = .ok (.aload_n 0, 1) := by decide +kernel
theorem dX5_passHour_23 : decode cX5_passHour 23 = .ok (.invokevirtual 319, 3) := by decide +kernel
theorem dX5_passHour_26 : decode cX5_passHour 26 = .ok (.aload_n 0, 1) := by decide +kernel
theorem dX5_passHour_27 : decode cX5_passHour 27 = .ok (.invokevirtual 322, 3) := by decide +kernel
theorem dX5_passHour_30 : decode cX5_passHour 30 = .ok (.return_, 1) := by decide +kernel
theorem dX5_endRaids_0 : decode cX5_endRaids 0 = .ok (.iconst 0, 1) := by decide +kernel
theorem dX5_endRaids_1 : decode cX5_endRaids 1 = .ok (.istore_n 1, 1) := by decide +kernel
theorem dX5_endRaids_2 : decode cX5_endRaids 2 = .ok (.iload_n 1, 1) := by decide +kernel
theorem dX5_endRaids_3 : decode cX5_endRaids 3 = .ok (.aload_n 0, 1) := by decide +kernel
theorem dX5_endRaids_4 : decode cX5_endRaids 4 = .ok (.getfield 66, 3) := by decide +kernel
theorem dX5_endRaids_7 : decode cX5_endRaids 7 = .ok (.if_icmp .ge 48, 3) := by decide +kernel
theorem dX5_endRaids_10 : decode cX5_endRaids 10 = .ok (.aload_n 0, 1) := by decide +kernel
theorem dX5_endRaids_11 : decode cX5_endRaids 11 = .ok (.getfield 11, 3) := by decide +kernel
theorem dX5_endRaids_14 : decode cX5_endRaids 14 = .ok (.iload_n 1, 1) := by decide +kernel
theorem dX5_endRaids_15 : decode cX5_endRaids 15 = .ok (.aaload, 1) := by decide +kernel
theorem dX5_endRaids_16 : decode cX5_endRaids 16 = .ok (.getfield 97, 3) := by decide +kernel
theorem dX5_endRaids_19 : decode cX5_endRaids 19 = .ok (.iconst 1, 1) := by decide +kernel
theorem dX5_endRaids_20 : decode cX5_endRaids 20 = .ok (.if_icmp .ne 29, 3) := by decide +kernel
theorem dX5_endRaids_23 : decode cX5_endRaids 23 = .ok (.aload_n 0, 1) := by decide +kernel
theorem dX5_endRaids_24 : decode cX5_endRaids 24 = .ok (.getfield 112, 3) := by decide +kernel
theorem dX5_endRaids_27 : decode cX5_endRaids 27 = .ok (.aload_n 0, 1) := by decide +kernel
theorem dX5_endRaids_28 : decode cX5_endRaids 28 = .ok (.getfield 11, 3) := by decide +kernel
theorem dX5_endRaids_31 : decode cX5_endRaids 31 = .ok (.iload_n 1, 1) := by decide +kernel
theorem dX5_endRaids_32 : decode cX5_endRaids 32 = .ok (.aaload, 1) := by decide +kernel
theorem dX5_endRaids_33 : decode cX5_endRaids 33 = .ok (.getfield 115, 3) := by decide +kernel
theorem dX5_endRaids_36 : decode cX5_endRaids 36 = .ok (.if_icmp .lt 13, 3) := by decide +kernel
theorem dX5_endRaids_39 : decode cX5_endRaids 39 = .ok (.aload_n 0, 1) := by decide +kernel
theorem dX5_endRaids_40 : decode cX5_endRaids 40 = .ok (.getfield 11, 3) := by decide +kernel
theorem dX5_endRaids_43 : decode cX5_endRaids 43 = .ok (.iload_n 1, 1) := by decide +kernel
theorem dX5_endRaids_44 : decode cX5_endRaids 44 = .ok (.aaload, 1) := by decide +kernel
theorem dX5_endRaids_45 : decode cX5_endRaids 45 = .ok (.iconst 0, 1) := by decide +kernel
theorem dX5_endRaids_46 : decode cX5_endRaids 46 = .ok (.putfield 97, 3) := by decide +kernel
theorem dX5_endRaids_49 : decode cX5_endRaids 49 = .ok (.iinc 1 1, 3) := by decide +kernel
theorem dX5_endRaids_52 : decode cX5_endRaids 52 = .ok (.goto (-50), 3) := by decide +kernel
theorem dX5_endRaids_55 : decode cX5_endRaids 55 = .ok (.return_, 1) := by decide +kernel
theorem dX5_moveMessages_0 : decode cX5_moveMessages 0 = .ok (.iconst 0, 1) := by decide +kernel
theorem dX5_moveMessages_1 : decode cX5_moveMessages 1 = .ok (.istore_n 1, 1) := by decide +kernel
theorem dX5_moveMessages_2 : decode cX5_moveMessages 2 = .ok (.iload_n 1, 1) := by decide +kernel
theorem dX5_moveMessages_3 : decode cX5_moveMessages 3 = .ok (.aload_n 0, 1) := by decide +kernel
theorem dX5_moveMessages_4 : decode cX5_moveMessages 4 = .ok (.getfield 124, 3) := by decide +kernel
theorem dX5_moveMessages_7 : decode cX5_moveMessages 7 = .ok (.if_icmp .ge 108, 3) := by decide +kernel
theorem dX5_moveMessages_10 : decode cX5_moveMessages 10 = .ok (.aload_n 0, 1) := by decide +kernel
theorem dX5_moveMessages_11 : decode cX5_moveMessages 11 = .ok (.getfield 18, 3) := by decide +kernel
theorem dX5_moveMessages_14 : decode cX5_moveMessages 14 = .ok (.iload_n 1, 1) := by decide +kernel
theorem dX5_moveMessages_15 : decode cX5_moveMessages 15 = .ok (.aaload, 1) := by decide +kernel
theorem dX5_moveMessages_16 : decode cX5_moveMessages 16 = .ok (.astore_n 2, 1) := by decide +kernel
theorem dX5_moveMessages_17 : decode cX5_moveMessages 17 = .ok (.aload_n 2, 1) := by decide +kernel
theorem dX5_moveMessages_18 : decode cX5_moveMessages 18 = .ok (.getfield 140, 3) := by decide +kernel
theorem dX5_moveMessages_21 : decode cX5_moveMessages 21 = .ok (.ifCond .ne 88, 3) := by decide +kernel
theorem dX5_moveMessages_24 : decode cX5_moveMessages 24 = .ok (.aload_n 2, 1) := by decide +kernel
theorem dX5_moveMessages_25 : decode cX5_moveMessages 25 = .ok (.getfield 221, 3) := by decide +kernel
theorem dX5_moveMessages_28 : decode cX5_moveMessages 28 = .ok (.iconst 1, 1) := by decide +kernel
theorem dX5_moveMessages_29 : decode cX5_moveMessages 29 = .ok (.iadd, 1) := by decide +kernel
theorem dX5_moveMessages_30 : decode cX5_moveMessages 30 = .ok (.aload_n 2, 1) := by decide +kernel
theorem dX5_moveMessages_31 : decode cX5_moveMessages 31 = .ok (.getfield 275, 3) := by decide +kernel
theorem dX5_moveMessages_34 : decode cX5_moveMessages 34 = .ok (.if_icmp .ge 75, 3) := by decide +kernel
theorem dX5_moveMessages_37 : decode cX5_moveMessages 37 = .ok (.aload_n 2, 1) := by decide +kernel
theorem dX5_moveMessages_38 : decode cX5_moveMessages 38 = .ok (.getfield 276, 3) := by decide +kernel
theorem dX5_moveMessages_41 : decode cX5_moveMessages 41 = .ok (.aload_n 2, 1) := by decide +kernel
theorem dX5_moveMessages_42 : decode cX5_moveMessages 42 = .ok (.getfield 221, 3) := by decide +kernel
theorem dX5_moveMessages_45 : decode cX5_moveMessages 45 = .ok (.iaload, 1) := by decide +kernel
theorem dX5_moveMessages_46 : decode cX5_moveMessages 46 = .ok (.istore_n 3, 1) := by decide +kernel
theorem dX5_moveMessages_47 : decode cX5_moveMessages 47 = .ok (.aload_n 2, 1) := by decide +kernel
theorem dX5_moveMessages_48 : decode cX5_moveMessages 48 = .ok (.getfield 276, 3) := by decide +kernel
theorem dX5_moveMessages_51 : decode cX5_moveMessages 51 = .ok (.aload_n 2, 1) := by decide +kernel
theorem dX5_moveMessages_52 : decode cX5_moveMessages 52 = .ok (.getfield 221, 3) := by decide +kernel
theorem dX5_moveMessages_55 : decode cX5_moveMessages 55 = .ok (.iconst 1, 1) := by decide +kernel
theorem dX5_moveMessages_56 : decode cX5_moveMessages 56 = .ok (.iadd, 1) := by decide +kernel
theorem dX5_moveMessages_57 : decode cX5_moveMessages 57 = .ok (.iaload, 1) := by decide +kernel
theorem dX5_moveMessages_58 : decode cX5_moveMessages 58 = .ok (.istore 4, 2) := by decide +kernel
theorem dX5_moveMessages_60 : decode cX5_moveMessages 60 = .ok (.aload_n 0, 1) := by decide +kernel
theorem dX5_moveMessages_61 : decode cX5_moveMessages 61 = .ok (.getfield 33, 3) := by decide +kernel
theorem dX5_moveMessages_64 : decode cX5_moveMessages 64 = .ok (.iload 4, 2) := by decide +kernel
theorem dX5_moveMessages_66 : decode cX5_moveMessages 66 = .ok (.iload_n 3, 1) := by decide +kernel
theorem dX5_moveMessages_67 : decode cX5_moveMessages 67 = .ok (.aload_n 2, 1) := by decide +kernel
theorem dX5_moveMessages_68 : decode cX5_moveMessages 68 = .ok (.getfield 278, 3) := by decide +kernel
theorem dX5_moveMessages_71 : decode cX5_moveMessages 71 = .ok (.aload_n 2, 1) := by decide +kernel
theorem dX5_moveMessages_72 : decode cX5_moveMessages 72 = .ok (.getfield 221, 3) := by decide +kernel
theorem dX5_moveMessages_75 : decode cX5_moveMessages 75 = .ok (.iaload, 1) := by decide +kernel
theorem dX5_moveMessages_76 : decode cX5_moveMessages 76 = .ok (.ineg, 1) := by decide +kernel
theorem dX5_moveMessages_77 : decode cX5_moveMessages 77 = .ok (.i2l, 1) := by decide +kernel
theorem dX5_moveMessages_78 : decode cX5_moveMessages 78 = .ok (.invokevirtual 284, 3) := by decide +kernel
theorem dX5_moveMessages_81 : decode cX5_moveMessages 81 = .ok (.aload_n 2, 1) := by decide +kernel
theorem dX5_moveMessages_82 : decode cX5_moveMessages 82 = .ok (.dup, 1) := by decide +kernel
theorem dX5_moveMessages_83 : decode cX5_moveMessages 83 = .ok (.getfield 221, 3) := by decide +kernel
theorem dX5_moveMessages_86 : decode cX5_moveMessages 86 = .ok (.iconst 1, 1) := by decide +kernel
theorem dX5_moveMessages_87 : decode cX5_moveMessages 87 = .ok (.iadd, 1) := by decide +kernel
theorem dX5_moveMessages_88 : decode cX5_moveMessages 88 = .ok (.putfield 221, 3) := by decide +kernel
theorem dX5_moveMessages_91 : decode cX5_moveMessages 91 = .ok (.aload_n 2, 1) := by decide +kernel
theorem dX5_moveMessages_92 : decode cX5_moveMessages 92 = .ok (.getfield 221, 3) := by decide +kernel
theorem dX5_moveMessages_95 : decode cX5_moveMessages 95 = .ok (.iconst 1, 1) := by decide +kernel
theorem dX5_moveMessages_96 : decode cX5_moveMessages 96 = .ok (.iadd, 1) := by decide +kernel
theorem dX5_moveMessages_97 : decode cX5_moveMessages 97 = .ok (.aload_n 2, 1) := by decide +kernel
theorem dX5_moveMessages_98 : decode cX5_moveMessages 98 = .ok (.getfield 275, 3) := by decide +kernel
theorem dX5_moveMessages_101 : decode cX5_moveMessages 101 = .ok (.if_icmp .ne 8, 3) := by decide +kernel
theorem dX5_moveMessages_104 : decode cX5_moveMessages 104 = .ok (.aload_n 2, 1) := by decide +kernel
theorem dX5_moveMessages_105 : decode cX5_moveMessages 105 = .ok (.iconst 1, 1) := by decide +kernel
theorem dX5_moveMessages_106 : decode cX5_moveMessages 106 = .ok (.putfield 140, 3) := by decide +kernel
theorem dX5_moveMessages_109 : decode cX5_moveMessages 109 = .ok (.iinc 1 1, 3) := by decide +kernel
theorem dX5_moveMessages_112 : decode cX5_moveMessages 112 = .ok (.goto (-110), 3) := by decide +kernel
theorem dX5_moveMessages_115 : decode cX5_moveMessages 115 = .ok (.return_, 1) := by decide +kernel
theorem dX5_sendBackOld_0 : decode cX5_sendBackOld 0 = .ok (.iconst 0, 1) := by decide +kernel
theorem dX5_sendBackOld_1 : decode cX5_sendBackOld 1 = .ok (.istore_n 1, 1) := by decide +kernel
theorem dX5_sendBackOld_2 : decode cX5_sendBackOld 2 = .ok (.iload_n 1, 1) := by decide +kernel
theorem dX5_sendBackOld_3 : decode cX5_sendBackOld 3 = .ok (.aload_n 0, 1) := by decide +kernel
theorem dX5_sendBackOld_4 : decode cX5_sendBackOld 4 = .ok (.getfield 124, 3) := by decide +kernel
theorem dX5_sendBackOld_7 : decode cX5_sendBackOld 7 = .ok (.if_icmp .ge 51, 3) := by decide +kernel
theorem dX5_sendBackOld_10 : decode cX5_sendBackOld 10 = .ok (.aload_n 0, 1) := by decide +kernel
theorem dX5_sendBackOld_11 : decode cX5_sendBackOld 11 = .ok (.getfield 18, 3) := by decide +kernel
theorem dX5_sendBackOld_14 : decode cX5_sendBackOld 14 = .ok (.iload_n 1, 1) := by decide +kernel
theorem dX5_sendBackOld_15 : decode cX5_sendBackOld 15 = .ok (.aaload, 1) := by decide +kernel
theorem dX5_sendBackOld_16 : decode cX5_sendBackOld 16 = .ok (.invokevirtual 325, 3) := by decide +kernel
theorem dX5_sendBackOld_19 : decode cX5_sendBackOld 19 = .ok (.ifCond .eq 33, 3) := by decide +kernel
theorem dX5_sendBackOld_22 : decode cX5_sendBackOld 22 = .ok (.aload_n 0, 1) := by decide +kernel
theorem dX5_sendBackOld_23 : decode cX5_sendBackOld 23 = .ok (.getfield 112, 3) := by decide +kernel
theorem dX5_sendBackOld_26 : decode cX5_sendBackOld 26 = .ok (.aload_n 0, 1) := by decide +kernel
theorem dX5_sendBackOld_27 : decode cX5_sendBackOld 27 = .ok (.getfield 18, 3) := by decide +kernel
theorem dX5_sendBackOld_30 : decode cX5_sendBackOld 30 = .ok (.iload_n 1, 1) := by decide +kernel
theorem dX5_sendBackOld_31 : decode cX5_sendBackOld 31 = .ok (.aaload, 1) := by decide +kernel
theorem dX5_sendBackOld_32 : decode cX5_sendBackOld 32 = .ok (.getfield 137, 3) := by decide +kernel
theorem dX5_sendBackOld_35 : decode cX5_sendBackOld 35 = .ok (.sipush 240, 3) := by decide +kernel
theorem dX5_sendBackOld_38 : decode cX5_sendBackOld 38 = .ok (.iadd, 1) := by decide +kernel
theorem dX5_sendBackOld_39 : decode cX5_sendBackOld 39 = .ok (.if_icmp .lt 13, 3) := by decide +kernel
theorem dX5_sendBackOld_42 : decode cX5_sendBackOld 42 = .ok (.aload_n 0, 1) := by decide +kernel
theorem dX5_sendBackOld_43 : decode cX5_sendBackOld 43 = .ok (.aload_n 0, 1) := by decide +kernel
theorem dX5_sendBackOld_44 : decode cX5_sendBackOld 44 = .ok (.getfield 18, 3) := by decide +kernel
theorem dX5_sendBackOld_47 : decode cX5_sendBackOld 47 = .ok (.iload_n 1, 1) := by decide +kernel
theorem dX5_sendBackOld_48 : decode cX5_sendBackOld 48 = .ok (.aaload, 1) := by decide +kernel
theorem dX5_sendBackOld_49 : decode cX5_sendBackOld 49 = .ok (.invokevirtual 165, 3) := by decide +kernel
theorem dX5_sendBackOld_52 : decode cX5_sendBackOld 52 = .ok (.iinc 1 1, 3) := by decide +kernel
theorem dX5_sendBackOld_55 : decode cX5_sendBackOld 55 = .ok (.goto (-53), 3) := by decide +kernel
theorem dX5_sendBackOld_58 : decode cX5_sendBackOld 58 = .ok (.return_, 1) := by decide +kernel
theorem dX5_giveBack_0 : decode cX5_giveBack 0 = .ok (.iconst 0, 1) := by decide +kernel
theorem dX5_giveBack_1 : decode cX5_giveBack 1 = .ok (.istore_n 1, 1) := by decide +kernel
theorem dX5_giveBack_2 : decode cX5_giveBack 2 = .ok (.iload_n 1, 1) := by decide +kernel
theorem dX5_giveBack_3 : decode cX5_giveBack 3 = .ok (.aload_n 0, 1) := by decide +kernel
theorem dX5_giveBack_4 : decode cX5_giveBack 4 = .ok (.getfield 124, 3) := by decide +kernel
theorem dX5_giveBack_7 : decode cX5_giveBack 7 = .ok (.if_icmp .ge 73, 3) := by decide +kernel
theorem dX5_giveBack_10 : decode cX5_giveBack 10 = .ok (.aload_n 0, 1) := by decide +kernel
theorem dX5_giveBack_11 : decode cX5_giveBack 11 = .ok (.getfield 18, 3) := by decide +kernel
theorem dX5_giveBack_14 : decode cX5_giveBack 14 = .ok (.iload_n 1, 1) := by decide +kernel
theorem dX5_giveBack_15 : decode cX5_giveBack 15 = .ok (.aaload, 1) := by decide +kernel
theorem dX5_giveBack_16 : decode cX5_giveBack 16 = .ok (.astore_n 2, 1) := by decide +kernel
theorem dX5_giveBack_17 : decode cX5_giveBack 17 = .ok (.aload_n 2, 1) := by decide +kernel
theorem dX5_giveBack_18 : decode cX5_giveBack 18 = .ok (.getfield 140, 3) := by decide +kernel
theorem dX5_giveBack_21 : decode cX5_giveBack 21 = .ok (.iconst 3, 1) := by decide +kernel
theorem dX5_giveBack_22 : decode cX5_giveBack 22 = .ok (.if_icmp .ne 52, 3) := by decide +kernel
theorem dX5_giveBack_25 : decode cX5_giveBack 25 = .ok (.aload_n 0, 1) := by decide +kernel
theorem dX5_giveBack_26 : decode cX5_giveBack 26 = .ok (.getfield 11, 3) := by decide +kernel
theorem dX5_giveBack_29 : decode cX5_giveBack 29 = .ok (.aload_n 2, 1) := by decide +kernel
theorem dX5_giveBack_30 : decode cX5_giveBack 30 = .ok (.invokevirtual 294, 3) := by decide +kernel
theorem dX5_giveBack_33 : decode cX5_giveBack 33 = .ok (.aaload, 1) := by decide +kernel
theorem dX5_giveBack_34 : decode cX5_giveBack 34 = .ok (.astore_n 3, 1) := by decide +kernel
theorem dX5_giveBack_35 : decode cX5_giveBack 35 = .ok (.aload_n 3, 1) := by decide +kernel
theorem dX5_giveBack_36 : decode cX5_giveBack 36 = .ok (.invokevirtual 108, 3) := by decide +kernel
theorem dX5_giveBack_39 : decode cX5_giveBack 39 = .ok (.ifCond .eq 35, 3) := by decide +kernel
theorem dX5_giveBack_42 : decode cX5_giveBack 42 = .ok (.aload_n 3, 1) := by decide +kernel
theorem dX5_giveBack_43 : decode cX5_giveBack 43 = .ok (.getfield 77, 3) := by decide +kernel
theorem dX5_giveBack_46 : decode cX5_giveBack 46 = .ok (.aload_n 2, 1) := by decide +kernel
theorem dX5_giveBack_47 : decode cX5_giveBack 47 = .ok (.getfield 145, 3) := by decide +kernel
theorem dX5_giveBack_50 : decode cX5_giveBack 50 = .ok (.i2l, 1) := by decide +kernel
theorem dX5_giveBack_51 : decode cX5_giveBack 51 = .ok (.lcmp, 1) := by decide +kernel
theorem dX5_giveBack_52 : decode cX5_giveBack 52 = .ok (.ifCond .lt 22, 3) := by decide +kernel
theorem dX5_giveBack_55 : decode cX5_giveBack 55 = .ok (.aload_n 3, 1) := by decide +kernel
theorem dX5_giveBack_56 : decode cX5_giveBack 56 = .ok (.dup, 1) := by decide +kernel
theorem dX5_giveBack_57 : decode cX5_giveBack 57 = .ok (.getfield 77, 3) := by decide +kernel
theorem dX5_giveBack_60 : decode cX5_giveBack 60 = .ok (.aload_n 2, 1) := by decide +kernel
theorem dX5_giveBack_61 : decode cX5_giveBack 61 = .ok (.getfield 145, 3) := by decide +kernel
theorem dX5_giveBack_64 : decode cX5_giveBack 64 = .ok (.i2l, 1) := by decide +kernel
theorem dX5_giveBack_65 : decode cX5_giveBack 65 = .ok (.lsub, 1) := by decide +kernel
theorem dX5_giveBack_66 : decode cX5_giveBack 66 = .ok (.putfield 77, 3) := by decide +kernel
theorem dX5_giveBack_69 : decode cX5_giveBack 69 = .ok (.aload_n 2, 1) := by decide +kernel
theorem dX5_giveBack_70 : decode cX5_giveBack 70 = .ok (.iconst 4, 1) := by decide +kernel
theorem dX5_giveBack_71 : decode cX5_giveBack 71 = .ok (.putfield 140, 3) := by decide +kernel
theorem dX5_giveBack_74 : decode cX5_giveBack 74 = .ok (.iinc 1 1, 3) := by decide +kernel
theorem dX5_giveBack_77 : decode cX5_giveBack 77 = .ok (.goto (-75), 3) := by decide +kernel
theorem dX5_giveBack_80 : decode cX5_giveBack 80 = .ok (.return_, 1) := by decide +kernel
theorem dX5_receiveCouriers_0 : decode cX5_receiveCouriers 0 = .ok (.iconst 0, 1) := by decide +kernel
theorem dX5_receiveCouriers_1 : decode cX5_receiveCouriers 1 = .ok (.istore_n 1, 1) := by decide +kernel
theorem dX5_receiveCouriers_2 : decode cX5_receiveCouriers 2 = .ok (.iload_n 1, 1) := by decide +kernel
theorem dX5_receiveCouriers_3 : decode cX5_receiveCouriers 3 = .ok (.aload_n 0, 1) := by decide +kernel
theorem dX5_receiveCouriers_4 : decode cX5_receiveCouriers 4 = .ok (.getfield 179, 3) := by decide +kernel
theorem dX5_receiveCouriers_7 : decode cX5_receiveCouriers 7 = .ok (.if_icmp .ge 82, 3) := by decide +kernel
theorem dX5_receiveCouriers_10 : decode cX5_receiveCouriers 10 = .ok (.aload_n 0, 1) := by decide +kernel
theorem dX5_receiveCouriers_11 : decode cX5_receiveCouriers 11 = .ok (.getfield 25, 3) := by decide +kernel
theorem dX5_receiveCouriers_14 : decode cX5_receiveCouriers 14 = .ok (.iload_n 1, 1) := by decide +kernel
theorem dX5_receiveCouriers_15 : decode cX5_receiveCouriers 15 = .ok (.aaload, 1) := by decide +kernel
theorem dX5_receiveCouriers_16 : decode cX5_receiveCouriers 16 = .ok (.astore_n 2, 1) := by decide +kernel
theorem dX5_receiveCouriers_17 : decode cX5_receiveCouriers 17 = .ok (.aload_n 2, 1) := by decide +kernel
theorem dX5_receiveCouriers_18 : decode cX5_receiveCouriers 18 = .ok (.getfield 192, 3) := by decide +kernel
theorem dX5_receiveCouriers_21 : decode cX5_receiveCouriers 21 = .ok (.ifCond .eq 62, 3) := by decide +kernel
theorem dX5_receiveCouriers_24 : decode cX5_receiveCouriers 24 = .ok (.aload_n 0, 1) := by decide +kernel
theorem dX5_receiveCouriers_25 : decode cX5_receiveCouriers 25 = .ok (.getfield 112, 3) := by decide +kernel
theorem dX5_receiveCouriers_28 : decode cX5_receiveCouriers 28 = .ok (.aload_n 2, 1) := by decide +kernel
theorem dX5_receiveCouriers_29 : decode cX5_receiveCouriers 29 = .ok (.getfield 189, 3) := by decide +kernel
theorem dX5_receiveCouriers_32 : decode cX5_receiveCouriers 32 = .ok (.if_icmp .lt 51, 3) := by decide +kernel
theorem dX5_receiveCouriers_35 : decode cX5_receiveCouriers 35 = .ok (.aload_n 2, 1) := by decide +kernel
theorem dX5_receiveCouriers_36 : decode cX5_receiveCouriers 36 = .ok (.iconst 0, 1) := by decide +kernel
theorem dX5_receiveCouriers_37 : decode cX5_receiveCouriers 37 = .ok (.putfield 192, 3) := by decide +kernel
theorem dX5_receiveCouriers_40 : decode cX5_receiveCouriers 40 = .ok (.aload_n 0, 1) := by decide +kernel
theorem dX5_receiveCouriers_41 : decode cX5_receiveCouriers 41 = .ok (.getfield 11, 3) := by decide +kernel
theorem dX5_receiveCouriers_44 : decode cX5_receiveCouriers 44 = .ok (.aload_n 2, 1) := by decide +kernel
theorem dX5_receiveCouriers_45 : decode cX5_receiveCouriers 45 = .ok (.getfield 185, 3) := by decide +kernel
theorem dX5_receiveCouriers_48 : decode cX5_receiveCouriers 48 = .ok (.aaload, 1) := by decide +kernel
theorem dX5_receiveCouriers_49 : decode cX5_receiveCouriers 49 = .ok (.dup, 1) := by decide +kernel
theorem dX5_receiveCouriers_50 : decode cX5_receiveCouriers 50 = .ok (.getfield 77, 3) := by decide +kernel
theorem dX5_receiveCouriers_53 : decode cX5_receiveCouriers 53 = .ok (.aload_n 2, 1) := by decide +kernel
theorem dX5_receiveCouriers_54 : decode cX5_receiveCouriers 54 = .ok (.getfield 188, 3) := by decide +kernel
theorem dX5_receiveCouriers_57 : decode cX5_receiveCouriers 57 = .ok (.i2l, 1) := by decide +kernel
theorem dX5_receiveCouriers_58 : decode cX5_receiveCouriers 58 = .ok (.ladd, 1) := by decide +kernel
theorem dX5_receiveCouriers_59 : decode cX5_receiveCouriers 59 = .ok (.putfield 77, 3) := by decide +kernel
theorem dX5_receiveCouriers_62 : decode cX5_receiveCouriers 62 = .ok (.aload_n 0, 1) := by decide +kernel
theorem dX5_receiveCouriers_63 : decode cX5_receiveCouriers 63 = .ok (.getfield 33, 3) := by decide +kernel
theorem dX5_receiveCouriers_66 : decode cX5_receiveCouriers 66 = .ok (.aload_n 2, 1) := by decide +kernel
theorem dX5_receiveCouriers_67 : decode cX5_receiveCouriers 67 = .ok (.getfield 182, 3) := by decide +kernel
theorem dX5_receiveCouriers_70 : decode cX5_receiveCouriers 70 = .ok (.aload_n 2, 1) := by decide +kernel
theorem dX5_receiveCouriers_71 : decode cX5_receiveCouriers 71 = .ok (.getfield 185, 3) := by decide +kernel
theorem dX5_receiveCouriers_74 : decode cX5_receiveCouriers 74 = .ok (.aload_n 2, 1) := by decide +kernel
theorem dX5_receiveCouriers_75 : decode cX5_receiveCouriers 75 = .ok (.getfield 188, 3) := by decide +kernel
theorem dX5_receiveCouriers_78 : decode cX5_receiveCouriers 78 = .ok (.ineg, 1) := by decide +kernel
theorem dX5_receiveCouriers_79 : decode cX5_receiveCouriers 79 = .ok (.i2l, 1) := by decide +kernel
theorem dX5_receiveCouriers_80 : decode cX5_receiveCouriers 80 = .ok (.invokevirtual 175, 3) := by decide +kernel
theorem dX5_receiveCouriers_83 : decode cX5_receiveCouriers 83 = .ok (.iinc 1 1, 3) := by decide +kernel
theorem dX5_receiveCouriers_86 : decode cX5_receiveCouriers 86 = .ok (.goto (-84), 3) := by decide +kernel
theorem dX5_receiveCouriers_89 : decode cX5_receiveCouriers 89 = .ok (.return_, 1) := by decide +kernel
theorem dX5_clearRing_0 : decode cX5_clearRing 0 = .ok (.aload_n 0, 1) := by decide +kernel
theorem dX5_clearRing_1 : decode cX5_clearRing 1 = .ok (.getfield 33, 3) := by decide +kernel
theorem dX5_clearRing_4 : decode cX5_clearRing 4 = .ok (.getfield 171, 3) := by decide +kernel
theorem dX5_clearRing_7 : decode cX5_clearRing 7 = .ok (.iload_n 1, 1) := by decide +kernel
theorem dX5_clearRing_8 : decode cX5_clearRing 8 = .ok (.aaload, 1) := by decide +kernel
theorem dX5_clearRing_9 : decode cX5_clearRing 9 = .ok (.iload_n 2, 1) := by decide +kernel
theorem dX5_clearRing_10 : decode cX5_clearRing 10 = .ok (.laload, 1) := by decide +kernel
theorem dX5_clearRing_11 : decode cX5_clearRing 11 = .ok (.aload_n 0, 1) := by decide +kernel
theorem dX5_clearRing_12 : decode cX5_clearRing 12 = .ok (.getfield 33, 3) := by decide +kernel
theorem dX5_clearRing_15 : decode cX5_clearRing 15 = .ok (.getfield 171, 3) := by decide +kernel
theorem dX5_clearRing_18 : decode cX5_clearRing 18 = .ok (.iload_n 2, 1) := by decide +kernel
theorem dX5_clearRing_19 : decode cX5_clearRing 19 = .ok (.aaload, 1) := by decide +kernel
theorem dX5_clearRing_20 : decode cX5_clearRing 20 = .ok (.iload_n 3, 1) := by decide +kernel
theorem dX5_clearRing_21 : decode cX5_clearRing 21 = .ok (.laload, 1) := by decide +kernel
theorem dX5_clearRing_22 : decode cX5_clearRing 22 = .ok (.aload_n 0, 1) := by decide +kernel
theorem dX5_clearRing_23 : decode cX5_clearRing 23 = .ok (.getfield 33, 3) := by decide +kernel
theorem dX5_clearRing_26 : decode cX5_clearRing 26 = .ok (.getfield 171, 3) := by decide +kernel
theorem dX5_clearRing_29 : decode cX5_clearRing 29 = .ok (.iload_n 3, 1) := by decide +kernel
theorem dX5_clearRing_30 : decode cX5_clearRing 30 = .ok (.aaload, 1) := by decide +kernel
theorem dX5_clearRing_31 : decode cX5_clearRing 31 = .ok (.iload_n 1, 1) := by decide +kernel
theorem dX5_clearRing_32 : decode cX5_clearRing 32 = .ok (.laload, 1) := by decide +kernel
theorem dX5_clearRing_33 : decode cX5_clearRing 33 = .ok (.invokestatic 328, 3) := by decide +kernel
theorem dX5_clearRing_36 : decode cX5_clearRing 36 = .ok (.invokestatic 328, 3) := by decide +kernel
theorem dX5_clearRing_39 : decode cX5_clearRing 39 = .ok (.lstore 4, 2) := by decide +kernel
theorem dX5_clearRing_41 : decode cX5_clearRing 41 = .ok (.lload 4, 2) := by decide +kernel
theorem dX5_clearRing_43 : decode cX5_clearRing 43 = .ok (.lconst 0, 1) := by decide +kernel
theorem dX5_clearRing_44 : decode cX5_clearRing 44 = .ok (.lcmp, 1) := by decide +kernel
theorem dX5_clearRing_45 : decode cX5_clearRing 45 = .ok (.ifCond .gt 5, 3) := by decide +kernel
theorem dX5_clearRing_48 : decode cX5_clearRing 48 = .ok (.lconst 0, 1) := by decide +kernel
theorem dX5_clearRing_49 : decode cX5_clearRing 49 = .ok (.lreturn, 1) := by decide +kernel
theorem dX5_clearRing_50 : decode cX5_clearRing 50 = .ok (.aload_n 0, 1) := by decide +kernel
theorem dX5_clearRing_51 : decode cX5_clearRing 51 = .ok (.getfield 33, 3) := by decide +kernel
theorem dX5_clearRing_54 : decode cX5_clearRing 54 = .ok (.iload_n 1, 1) := by decide +kernel
theorem dX5_clearRing_55 : decode cX5_clearRing 55 = .ok (.iload_n 2, 1) := by decide +kernel
theorem dX5_clearRing_56 : decode cX5_clearRing 56 = .ok (.lload 4, 2) := by decide +kernel
theorem dX5_clearRing_58 : decode cX5_clearRing 58 = .ok (.lneg, 1) := by decide +kernel
theorem dX5_clearRing_59 : decode cX5_clearRing 59 = .ok (.invokevirtual 175, 3) := by decide +kernel
theorem dX5_clearRing_62 : decode cX5_clearRing 62 = .ok (.aload_n 0, 1) := by decide +kernel
theorem dX5_clearRing_63 : decode cX5_clearRing 63 = .ok (.getfield 33, 3) := by decide +kernel
theorem dX5_clearRing_66 : decode cX5_clearRing 66 = .ok (.iload_n 2, 1) := by decide +kernel
theorem dX5_clearRing_67 : decode cX5_clearRing 67 = .ok (.iload_n 3, 1) := by decide +kernel
theorem dX5_clearRing_68 : decode cX5_clearRing 68 = .ok (.lload 4, 2) := by decide +kernel
theorem dX5_clearRing_70 : decode cX5_clearRing 70 = .ok (.lneg, 1) := by decide +kernel
theorem dX5_clearRing_71 : decode cX5_clearRing 71 = .ok (.invokevirtual 175, 3) := by decide +kernel
theorem dX5_clearRing_74 : decode cX5_clearRing 74 = .ok (.aload_n 0, 1) := by decide +kernel
theorem dX5_clearRing_75 : decode cX5_clearRing 75 = .ok (.getfield 33, 3) := by decide +kernel
theorem dX5_clearRing_78 : decode cX5_clearRing 78 = .ok (.iload_n 3, 1) := by decide +kernel
theorem dX5_clearRing_79 : decode cX5_clearRing 79 = .ok (.iload_n 1, 1) := by decide +kernel
theorem dX5_clearRing_80 : decode cX5_clearRing 80 = .ok (.lload 4, 2) := by decide +kernel
theorem dX5_clearRing_82 : decode cX5_clearRing 82 = .ok (.lneg, 1) := by decide +kernel
theorem dX5_clearRing_83 : decode cX5_clearRing 83 = .ok (.invokevirtual 175, 3) := by decide +kernel
theorem dX5_clearRing_86 : decode cX5_clearRing 86 = .ok (.lload 4, 2) := by decide +kernel
theorem dX5_clearRing_88 : decode cX5_clearRing 88 = .ok (.lreturn, 1) := by decide +kernel
theorem dX5_worthOf_0 : decode cX5_worthOf 0 = .ok (.aload_n 0, 1) := by decide +kernel
theorem dX5_worthOf_1 : decode cX5_worthOf 1 = .ok (.getfield 11, 3) := by decide +kernel
theorem dX5_worthOf_4 : decode cX5_worthOf 4 = .ok (.iload_n 1, 1) := by decide +kernel
theorem dX5_worthOf_5 : decode cX5_worthOf 5 = .ok (.aaload, 1) := by decide +kernel
theorem dX5_worthOf_6 : decode cX5_worthOf 6 = .ok (.getfield 77, 3) := by decide +kernel
theorem dX5_worthOf_9 : decode cX5_worthOf 9 = .ok (.lstore_n 2, 1) := by decide +kernel
theorem dX5_worthOf_10 : decode cX5_worthOf 10 = .ok (.iconst 0, 1) := by decide +kernel
theorem dX5_worthOf_11 : decode cX5_worthOf 11 = .ok (.istore 4, 2) := by decide +kernel
theorem dX5_worthOf_13 : decode cX5_worthOf 13 = .ok (.iload 4, 2) := by decide +kernel
theorem dX5_worthOf_15 : decode cX5_worthOf 15 = .ok (.aload_n 0, 1) := by decide +kernel
theorem dX5_worthOf_16 : decode cX5_worthOf 16 = .ok (.getfield 66, 3) := by decide +kernel
theorem dX5_worthOf_19 : decode cX5_worthOf 19 = .ok (.if_icmp .ge 24, 3) := by decide +kernel
theorem dX5_worthOf_22 : decode cX5_worthOf 22 = .ok (.lload_n 2, 1) := by decide +kernel
theorem dX5_worthOf_23 : decode cX5_worthOf 23 = .ok (.aload_n 0, 1) := by decide +kernel
theorem dX5_worthOf_24 : decode cX5_worthOf 24 = .ok (.getfield 33, 3) := by decide +kernel
theorem dX5_worthOf_27 : decode cX5_worthOf 27 = .ok (.getfield 171, 3) := by decide +kernel
theorem dX5_worthOf_30 : decode cX5_worthOf 30 = .ok (.iload_n 1, 1) := by decide +kernel
theorem dX5_worthOf_31 : decode cX5_worthOf 31 = .ok (.aaload, 1) := by decide +kernel
theorem dX5_worthOf_32 : decode cX5_worthOf 32 = .ok (.iload 4, 2) := by decide +kernel
theorem dX5_worthOf_34 : decode cX5_worthOf 34 = .ok (.laload, 1) := by decide +kernel
theorem dX5_worthOf_35 : decode cX5_worthOf 35 = .ok (.lsub, 1) := by decide +kernel
theorem dX5_worthOf_36 : decode cX5_worthOf 36 = .ok (.lstore_n 2, 1) := by decide +kernel
theorem dX5_worthOf_37 : decode cX5_worthOf 37 = .ok (.iinc 4 1, 3) := by decide +kernel
theorem dX5_worthOf_40 : decode cX5_worthOf 40 = .ok (.goto (-27), 3) := by decide +kernel
theorem dX5_worthOf_43 : decode cX5_worthOf 43 = .ok (.lload_n 2, 1) := by decide +kernel
theorem dX5_worthOf_44 : decode cX5_worthOf 44 = .ok (.lreturn, 1) := by decide +kernel
theorem dX5_namedByBook_0 : decode cX5_namedByBook 0 = .ok (.iconst 0, 1) := by decide +kernel
theorem dX5_namedByBook_1 : decode cX5_namedByBook 1 = .ok (.istore_n 2, 1) := by decide +kernel
theorem dX5_namedByBook_2 : decode cX5_namedByBook 2 = .ok (.iconst 0, 1) := by decide +kernel
theorem dX5_namedByBook_3 : decode cX5_namedByBook 3 = .ok (.istore_n 3, 1) := by decide +kernel
theorem dX5_namedByBook_4 : decode cX5_namedByBook 4 = .ok (.iload_n 3, 1) := by decide +kernel
theorem dX5_namedByBook_5 : decode cX5_namedByBook 5 = .ok (.aload_n 0, 1) := by decide +kernel
theorem dX5_namedByBook_6 : decode cX5_namedByBook 6 = .ok (.getfield 66, 3) := by decide +kernel
theorem dX5_namedByBook_9 : decode cX5_namedByBook 9 = .ok (.if_icmp .ge 31, 3) := by decide +kernel
theorem dX5_namedByBook_12 : decode cX5_namedByBook 12 = .ok (.aload_n 0, 1) := by decide +kernel
theorem dX5_namedByBook_13 : decode cX5_namedByBook 13 = .ok (.getfield 33, 3) := by decide +kernel
theorem dX5_namedByBook_16 : decode cX5_namedByBook 16 = .ok (.getfield 206, 3) := by decide +kernel
theorem dX5_namedByBook_19 : decode cX5_namedByBook 19 = .ok (.iload_n 1, 1) := by decide +kernel
theorem dX5_namedByBook_20 : decode cX5_namedByBook 20 = .ok (.aaload, 1) := by decide +kernel
theorem dX5_namedByBook_21 : decode cX5_namedByBook 21 = .ok (.iload_n 3, 1) := by decide +kernel
theorem dX5_namedByBook_22 : decode cX5_namedByBook 22 = .ok (.laload, 1) := by decide +kernel
theorem dX5_namedByBook_23 : decode cX5_namedByBook 23 = .ok (.lconst 0, 1) := by decide +kernel
theorem dX5_namedByBook_24 : decode cX5_namedByBook 24 = .ok (.lcmp, 1) := by decide +kernel
theorem dX5_namedByBook_25 : decode cX5_namedByBook 25 = .ok (.ifCond .eq 9, 3) := by decide +kernel
theorem dX5_namedByBook_28 : decode cX5_namedByBook 28 = .ok (.iload_n 2, 1) := by decide +kernel
theorem dX5_namedByBook_29 : decode cX5_namedByBook 29 = .ok (.iconst 1, 1) := by decide +kernel
theorem dX5_namedByBook_30 : decode cX5_namedByBook 30 = .ok (.iload_n 3, 1) := by decide +kernel
theorem dX5_namedByBook_31 : decode cX5_namedByBook 31 = .ok (.ishl, 1) := by decide +kernel
theorem dX5_namedByBook_32 : decode cX5_namedByBook 32 = .ok (.ior, 1) := by decide +kernel
theorem dX5_namedByBook_33 : decode cX5_namedByBook 33 = .ok (.istore_n 2, 1) := by decide +kernel
theorem dX5_namedByBook_34 : decode cX5_namedByBook 34 = .ok (.iinc 3 1, 3) := by decide +kernel
theorem dX5_namedByBook_37 : decode cX5_namedByBook 37 = .ok (.goto (-33), 3) := by decide +kernel
theorem dX5_namedByBook_40 : decode cX5_namedByBook 40 = .ok (.iload_n 2, 1) := by decide +kernel
theorem dX5_namedByBook_41 : decode cX5_namedByBook 41 = .ok (.ireturn, 1) := by decide +kernel
theorem dX5_sumGiven_0 : decode cX5_sumGiven 0 = .ok (.lconst 0, 1) := by decide +kernel
theorem dX5_sumGiven_1 : decode cX5_sumGiven 1 = .ok (.lstore_n 1, 1) := by decide +kernel
theorem dX5_sumGiven_2 : decode cX5_sumGiven 2 = .ok (.iconst 0, 1) := by decide +kernel
theorem dX5_sumGiven_3 : decode cX5_sumGiven 3 = .ok (.istore_n 3, 1) := by decide +kernel
theorem dX5_sumGiven_4 : decode cX5_sumGiven 4 = .ok (.iload_n 3, 1) := by decide +kernel
theorem dX5_sumGiven_5 : decode cX5_sumGiven 5 = .ok (.aload_n 0, 1) := by decide +kernel
theorem dX5_sumGiven_6 : decode cX5_sumGiven 6 = .ok (.getfield 124, 3) := by decide +kernel
theorem dX5_sumGiven_9 : decode cX5_sumGiven 9 = .ok (.if_icmp .ge 22, 3) := by decide +kernel
theorem dX5_sumGiven_12 : decode cX5_sumGiven 12 = .ok (.lload_n 1, 1) := by decide +kernel
theorem dX5_sumGiven_13 : decode cX5_sumGiven 13 = .ok (.aload_n 0, 1) := by decide +kernel
theorem dX5_sumGiven_14 : decode cX5_sumGiven 14 = .ok (.getfield 18, 3) := by decide +kernel
theorem dX5_sumGiven_17 : decode cX5_sumGiven 17 = .ok (.iload_n 3, 1) := by decide +kernel
theorem dX5_sumGiven_18 : decode cX5_sumGiven 18 = .ok (.aaload, 1) := by decide +kernel
theorem dX5_sumGiven_19 : decode cX5_sumGiven 19 = .ok (.getfield 145, 3) := by decide +kernel
theorem dX5_sumGiven_22 : decode cX5_sumGiven 22 = .ok (.i2l, 1) := by decide +kernel
theorem dX5_sumGiven_23 : decode cX5_sumGiven 23 = .ok (.ladd, 1) := by decide +kernel
theorem dX5_sumGiven_24 : decode cX5_sumGiven 24 = .ok (.lstore_n 1, 1) := by decide +kernel
theorem dX5_sumGiven_25 : decode cX5_sumGiven 25 = .ok (.iinc 3 1, 3) := by decide +kernel
theorem dX5_sumGiven_28 : decode cX5_sumGiven 28 = .ok (.goto (-24), 3) := by decide +kernel
theorem dX5_sumGiven_31 : decode cX5_sumGiven 31 = .ok (.lload_n 1, 1) := by decide +kernel
theorem dX5_sumGiven_32 : decode cX5_sumGiven 32 = .ok (.lreturn, 1) := by decide +kernel
theorem dX5_sumGivenIn_0 : decode cX5_sumGivenIn 0 = .ok (.lconst 0, 1) := by decide +kernel
theorem dX5_sumGivenIn_1 : decode cX5_sumGivenIn 1 = .ok (.lstore_n 2, 1) := by decide +kernel
theorem dX5_sumGivenIn_2 : decode cX5_sumGivenIn 2 = .ok (.iconst 0, 1) := by decide +kernel
theorem dX5_sumGivenIn_3 : decode cX5_sumGivenIn 3 = .ok (.istore 4, 2) := by decide +kernel
theorem dX5_sumGivenIn_5 : decode cX5_sumGivenIn 5 = .ok (.iload 4, 2) := by decide +kernel
theorem dX5_sumGivenIn_7 : decode cX5_sumGivenIn 7 = .ok (.aload_n 0, 1) := by decide +kernel
theorem dX5_sumGivenIn_8 : decode cX5_sumGivenIn 8 = .ok (.getfield 124, 3) := by decide +kernel
theorem dX5_sumGivenIn_11 : decode cX5_sumGivenIn 11 = .ok (.if_icmp .ge 37, 3) := by decide +kernel
theorem dX5_sumGivenIn_14 : decode cX5_sumGivenIn 14 = .ok (.aload_n 0, 1) := by decide +kernel
theorem dX5_sumGivenIn_15 : decode cX5_sumGivenIn 15 = .ok (.getfield 18, 3) := by decide +kernel
theorem dX5_sumGivenIn_18 : decode cX5_sumGivenIn 18 = .ok (.iload 4, 2) := by decide +kernel
theorem dX5_sumGivenIn_20 : decode cX5_sumGivenIn 20 = .ok (.aaload, 1) := by decide +kernel
theorem dX5_sumGivenIn_21 : decode cX5_sumGivenIn 21 = .ok (.getfield 140, 3) := by decide +kernel
theorem dX5_sumGivenIn_24 : decode cX5_sumGivenIn 24 = .ok (.iload_n 1, 1) := by decide +kernel
theorem dX5_sumGivenIn_25 : decode cX5_sumGivenIn 25 = .ok (.if_icmp .ne 17, 3) := by decide +kernel
theorem dX5_sumGivenIn_28 : decode cX5_sumGivenIn 28 = .ok (.lload_n 2, 1) := by decide +kernel
theorem dX5_sumGivenIn_29 : decode cX5_sumGivenIn 29 = .ok (.aload_n 0, 1) := by decide +kernel
theorem dX5_sumGivenIn_30 : decode cX5_sumGivenIn 30 = .ok (.getfield 18, 3) := by decide +kernel
theorem dX5_sumGivenIn_33 : decode cX5_sumGivenIn 33 = .ok (.iload 4, 2) := by decide +kernel
theorem dX5_sumGivenIn_35 : decode cX5_sumGivenIn 35 = .ok (.aaload, 1) := by decide +kernel
theorem dX5_sumGivenIn_36 : decode cX5_sumGivenIn 36 = .ok (.getfield 145, 3) := by decide +kernel
theorem dX5_sumGivenIn_39 : decode cX5_sumGivenIn 39 = .ok (.i2l, 1) := by decide +kernel
theorem dX5_sumGivenIn_40 : decode cX5_sumGivenIn 40 = .ok (.ladd, 1) := by decide +kernel
theorem dX5_sumGivenIn_41 : decode cX5_sumGivenIn 41 = .ok (.lstore_n 2, 1) := by decide +kernel
theorem dX5_sumGivenIn_42 : decode cX5_sumGivenIn 42 = .ok (.iinc 4 1, 3) := by decide +kernel
theorem dX5_sumGivenIn_45 : decode cX5_sumGivenIn 45 = .ok (.goto (-40), 3) := by decide +kernel
theorem dX5_sumGivenIn_48 : decode cX5_sumGivenIn 48 = .ok (.lload_n 2, 1) := by decide +kernel
theorem dX5_sumGivenIn_49 : decode cX5_sumGivenIn 49 = .ok (.lreturn, 1) := by decide +kernel
theorem dX5_sumPaidOut_0 : decode cX5_sumPaidOut 0 = .ok (.lconst 0, 1) := by decide +kernel
theorem dX5_sumPaidOut_1 : decode cX5_sumPaidOut 1 = .ok (.lstore_n 1, 1) := by decide +kernel
theorem dX5_sumPaidOut_2 : decode cX5_sumPaidOut 2 = .ok (.iconst 0, 1) := by decide +kernel
theorem dX5_sumPaidOut_3 : decode cX5_sumPaidOut 3 = .ok (.istore_n 3, 1) := by decide +kernel
theorem dX5_sumPaidOut_4 : decode cX5_sumPaidOut 4 = .ok (.iload_n 3, 1) := by decide +kernel
theorem dX5_sumPaidOut_5 : decode cX5_sumPaidOut 5 = .ok (.aload_n 0, 1) := by decide +kernel
theorem dX5_sumPaidOut_6 : decode cX5_sumPaidOut 6 = .ok (.getfield 124, 3) := by decide +kernel
theorem dX5_sumPaidOut_9 : decode cX5_sumPaidOut 9 = .ok (.if_icmp .ge 35, 3) := by decide +kernel
theorem dX5_sumPaidOut_12 : decode cX5_sumPaidOut 12 = .ok (.aload_n 0, 1) := by decide +kernel
theorem dX5_sumPaidOut_13 : decode cX5_sumPaidOut 13 = .ok (.getfield 18, 3) := by decide +kernel
theorem dX5_sumPaidOut_16 : decode cX5_sumPaidOut 16 = .ok (.iload_n 3, 1) := by decide +kernel
theorem dX5_sumPaidOut_17 : decode cX5_sumPaidOut 17 = .ok (.aaload, 1) := by decide +kernel
theorem dX5_sumPaidOut_18 : decode cX5_sumPaidOut 18 = .ok (.getfield 140, 3) := by decide +kernel
theorem dX5_sumPaidOut_21 : decode cX5_sumPaidOut 21 = .ok (.iconst 2, 1) := by decide +kernel
theorem dX5_sumPaidOut_22 : decode cX5_sumPaidOut 22 = .ok (.if_icmp .ne 16, 3) := by decide +kernel
theorem dX5_sumPaidOut_25 : decode cX5_sumPaidOut 25 = .ok (.lload_n 1, 1) := by decide +kernel
theorem dX5_sumPaidOut_26 : decode cX5_sumPaidOut 26 = .ok (.aload_n 0, 1) := by decide +kernel
theorem dX5_sumPaidOut_27 : decode cX5_sumPaidOut 27 = .ok (.getfield 18, 3) := by decide +kernel
theorem dX5_sumPaidOut_30 : decode cX5_sumPaidOut 30 = .ok (.iload_n 3, 1) := by decide +kernel
theorem dX5_sumPaidOut_31 : decode cX5_sumPaidOut 31 = .ok (.aaload, 1) := by decide +kernel
theorem dX5_sumPaidOut_32 : decode cX5_sumPaidOut 32 = .ok (.getfield 131, 3) := by decide +kernel
theorem dX5_sumPaidOut_35 : decode cX5_sumPaidOut 35 = .ok (.i2l, 1) := by decide +kernel
theorem dX5_sumPaidOut_36 : decode cX5_sumPaidOut 36 = .ok (.ladd, 1) := by decide +kernel
theorem dX5_sumPaidOut_37 : decode cX5_sumPaidOut 37 = .ok (.lstore_n 1, 1) := by decide +kernel
theorem dX5_sumPaidOut_38 : decode cX5_sumPaidOut 38 = .ok (.iinc 3 1, 3) := by decide +kernel
theorem dX5_sumPaidOut_41 : decode cX5_sumPaidOut 41 = .ok (.goto (-37), 3) := by decide +kernel
theorem dX5_sumPaidOut_44 : decode cX5_sumPaidOut 44 = .ok (.lload_n 1, 1) := by decide +kernel
theorem dX5_sumPaidOut_45 : decode cX5_sumPaidOut 45 = .ok (.lreturn, 1) := by decide +kernel
theorem dX5_sumRobbed_0 : decode cX5_sumRobbed 0 = .ok (.lconst 0, 1) := by decide +kernel
theorem dX5_sumRobbed_1 : decode cX5_sumRobbed 1 = .ok (.lstore_n 1, 1) := by decide +kernel
theorem dX5_sumRobbed_2 : decode cX5_sumRobbed 2 = .ok (.iconst 0, 1) := by decide +kernel
theorem dX5_sumRobbed_3 : decode cX5_sumRobbed 3 = .ok (.istore_n 3, 1) := by decide +kernel
theorem dX5_sumRobbed_4 : decode cX5_sumRobbed 4 = .ok (.iload_n 3, 1) := by decide +kernel
theorem dX5_sumRobbed_5 : decode cX5_sumRobbed 5 = .ok (.aload_n 0, 1) := by decide +kernel
theorem dX5_sumRobbed_6 : decode cX5_sumRobbed 6 = .ok (.getfield 179, 3) := by decide +kernel
theorem dX5_sumRobbed_9 : decode cX5_sumRobbed 9 = .ok (.if_icmp .ge 34, 3) := by decide +kernel
theorem dX5_sumRobbed_12 : decode cX5_sumRobbed 12 = .ok (.aload_n 0, 1) := by decide +kernel
theorem dX5_sumRobbed_13 : decode cX5_sumRobbed 13 = .ok (.getfield 25, 3) := by decide +kernel
theorem dX5_sumRobbed_16 : decode cX5_sumRobbed 16 = .ok (.iload_n 3, 1) := by decide +kernel
theorem dX5_sumRobbed_17 : decode cX5_sumRobbed 17 = .ok (.aaload, 1) := by decide +kernel
theorem dX5_sumRobbed_18 : decode cX5_sumRobbed 18 = .ok (.getfield 195, 3) := by decide +kernel
theorem dX5_sumRobbed_21 : decode cX5_sumRobbed 21 = .ok (.ifCond .eq 16, 3) := by decide +kernel
theorem dX5_sumRobbed_24 : decode cX5_sumRobbed 24 = .ok (.lload_n 1, 1) := by decide +kernel
theorem dX5_sumRobbed_25 : decode cX5_sumRobbed 25 = .ok (.aload_n 0, 1) := by decide +kernel
theorem dX5_sumRobbed_26 : decode cX5_sumRobbed 26 = .ok (.getfield 25, 3) := by decide +kernel
theorem dX5_sumRobbed_29 : decode cX5_sumRobbed 29 = .ok (.iload_n 3, 1) := by decide +kernel
theorem dX5_sumRobbed_30 : decode cX5_sumRobbed 30 = .ok (.aaload, 1) := by decide +kernel
theorem dX5_sumRobbed_31 : decode cX5_sumRobbed 31 = .ok (.getfield 188, 3) := by decide +kernel
theorem dX5_sumRobbed_34 : decode cX5_sumRobbed 34 = .ok (.i2l, 1) := by decide +kernel
theorem dX5_sumRobbed_35 : decode cX5_sumRobbed 35 = .ok (.ladd, 1) := by decide +kernel
theorem dX5_sumRobbed_36 : decode cX5_sumRobbed 36 = .ok (.lstore_n 1, 1) := by decide +kernel
theorem dX5_sumRobbed_37 : decode cX5_sumRobbed 37 = .ok (.iinc 3 1, 3) := by decide +kernel
theorem dX5_sumRobbed_40 : decode cX5_sumRobbed 40 = .ok (.goto (-36), 3) := by decide +kernel
theorem dX5_sumRobbed_43 : decode cX5_sumRobbed 43 = .ok (.lload_n 1, 1) := by decide +kernel
theorem dX5_sumRobbed_44 : decode cX5_sumRobbed 44 = .ok (.lreturn, 1) := by decide +kernel
theorem dX5_sumOnRoad_0 : decode cX5_sumOnRoad 0 = .ok (.lconst 0, 1) := by decide +kernel
theorem dX5_sumOnRoad_1 : decode cX5_sumOnRoad 1 = .ok (.lstore_n 1, 1) := by decide +kernel
theorem dX5_sumOnRoad_2 : decode cX5_sumOnRoad 2 = .ok (.iconst 0, 1) := by decide +kernel
theorem dX5_sumOnRoad_3 : decode cX5_sumOnRoad 3 = .ok (.istore_n 3, 1) := by decide +kernel
theorem dX5_sumOnRoad_4 : decode cX5_sumOnRoad 4 = .ok (.iload_n 3, 1) := by decide +kernel
theorem dX5_sumOnRoad_5 : decode cX5_sumOnRoad 5 = .ok (.aload_n 0, 1) := by decide +kernel
theorem dX5_sumOnRoad_6 : decode cX5_sumOnRoad 6 = .ok (.getfield 179, 3) := by decide +kernel
theorem dX5_sumOnRoad_9 : decode cX5_sumOnRoad 9 = .ok (.if_icmp .ge 34, 3) := by decide +kernel
theorem dX5_sumOnRoad_12 : decode cX5_sumOnRoad 12 = .ok (.aload_n 0, 1) := by decide +kernel
theorem dX5_sumOnRoad_13 : decode cX5_sumOnRoad 13 = .ok (.getfield 25, 3) := by decide +kernel
theorem dX5_sumOnRoad_16 : decode cX5_sumOnRoad 16 = .ok (.iload_n 3, 1) := by decide +kernel
theorem dX5_sumOnRoad_17 : decode cX5_sumOnRoad 17 = .ok (.aaload, 1) := by decide +kernel
theorem dX5_sumOnRoad_18 : decode cX5_sumOnRoad 18 = .ok (.getfield 192, 3) := by decide +kernel
theorem dX5_sumOnRoad_21 : decode cX5_sumOnRoad 21 = .ok (.ifCond .eq 16, 3) := by decide +kernel
theorem dX5_sumOnRoad_24 : decode cX5_sumOnRoad 24 = .ok (.lload_n 1, 1) := by decide +kernel
theorem dX5_sumOnRoad_25 : decode cX5_sumOnRoad 25 = .ok (.aload_n 0, 1) := by decide +kernel
theorem dX5_sumOnRoad_26 : decode cX5_sumOnRoad 26 = .ok (.getfield 25, 3) := by decide +kernel
theorem dX5_sumOnRoad_29 : decode cX5_sumOnRoad 29 = .ok (.iload_n 3, 1) := by decide +kernel
theorem dX5_sumOnRoad_30 : decode cX5_sumOnRoad 30 = .ok (.aaload, 1) := by decide +kernel
theorem dX5_sumOnRoad_31 : decode cX5_sumOnRoad 31 = .ok (.getfield 188, 3) := by decide +kernel
theorem dX5_sumOnRoad_34 : decode cX5_sumOnRoad 34 = .ok (.i2l, 1) := by decide +kernel
theorem dX5_sumOnRoad_35 : decode cX5_sumOnRoad 35 = .ok (.ladd, 1) := by decide +kernel
theorem dX5_sumOnRoad_36 : decode cX5_sumOnRoad 36 = .ok (.lstore_n 1, 1) := by decide +kernel
theorem dX5_sumOnRoad_37 : decode cX5_sumOnRoad 37 = .ok (.iinc 3 1, 3) := by decide +kernel
theorem dX5_sumOnRoad_40 : decode cX5_sumOnRoad 40 = .ok (.goto (-36), 3) := by decide +kernel
theorem dX5_sumOnRoad_43 : decode cX5_sumOnRoad 43 = .ok (.lload_n 1, 1) := by decide +kernel
theorem dX5_sumOnRoad_44 : decode cX5_sumOnRoad 44 = .ok (.lreturn, 1) := by decide +kernel
theorem dX5_sumCash_0 : decode cX5_sumCash 0 = .ok (.lconst 0, 1) := by decide +kernel
theorem dX5_sumCash_1 : decode cX5_sumCash 1 = .ok (.lstore_n 1, 1) := by decide +kernel
theorem dX5_sumCash_2 : decode cX5_sumCash 2 = .ok (.iconst 0, 1) := by decide +kernel
theorem dX5_sumCash_3 : decode cX5_sumCash 3 = .ok (.istore_n 3, 1) := by decide +kernel
theorem dX5_sumCash_4 : decode cX5_sumCash 4 = .ok (.iload_n 3, 1) := by decide +kernel
theorem dX5_sumCash_5 : decode cX5_sumCash 5 = .ok (.aload_n 0, 1) := by decide +kernel
theorem dX5_sumCash_6 : decode cX5_sumCash 6 = .ok (.getfield 66, 3) := by decide +kernel
theorem dX5_sumCash_9 : decode cX5_sumCash 9 = .ok (.if_icmp .ge 21, 3) := by decide +kernel
theorem dX5_sumCash_12 : decode cX5_sumCash 12 = .ok (.lload_n 1, 1) := by decide +kernel
theorem dX5_sumCash_13 : decode cX5_sumCash 13 = .ok (.aload_n 0, 1) := by decide +kernel
theorem dX5_sumCash_14 : decode cX5_sumCash 14 = .ok (.getfield 11, 3) := by decide +kernel
theorem dX5_sumCash_17 : decode cX5_sumCash 17 = .ok (.iload_n 3, 1) := by decide +kernel
theorem dX5_sumCash_18 : decode cX5_sumCash 18 = .ok (.aaload, 1) := by decide +kernel
theorem dX5_sumCash_19 : decode cX5_sumCash 19 = .ok (.getfield 77, 3) := by decide +kernel
theorem dX5_sumCash_22 : decode cX5_sumCash 22 = .ok (.ladd, 1) := by decide +kernel
theorem dX5_sumCash_23 : decode cX5_sumCash 23 = .ok (.lstore_n 1, 1) := by decide +kernel
theorem dX5_sumCash_24 : decode cX5_sumCash 24 = .ok (.iinc 3 1, 3) := by decide +kernel
theorem dX5_sumCash_27 : decode cX5_sumCash 27 = .ok (.goto (-23), 3) := by decide +kernel
theorem dX5_sumCash_30 : decode cX5_sumCash 30 = .ok (.lload_n 1, 1) := by decide +kernel
theorem dX5_sumCash_31 : decode cX5_sumCash 31 = .ok (.lreturn, 1) := by decide +kernel
theorem dJ9_min_f86c9_0 : decode cJ9_min_f86c9 0 = .ok (.lload_n 0, 1) := by decide +kernel
theorem dJ9_min_f86c9_1 : decode cJ9_min_f86c9 1 = .ok (.lload_n 2, 1) := by decide +kernel
theorem dJ9_min_f86c9_2 : decode cJ9_min_f86c9 2 = .ok (.lcmp, 1) := by decide +kernel
theorem dJ9_min_f86c9_3 : decode cJ9_min_f86c9 3 = .ok (.ifCond .gt 7, 3) := by decide +kernel
theorem dJ9_min_f86c9_6 : decode cJ9_min_f86c9 6 = .ok (.lload_n 0, 1) := by decide +kernel
theorem dJ9_min_f86c9_7 : decode cJ9_min_f86c9 7 = .ok (.goto 4, 3) := by decide +kernel
theorem dJ9_min_f86c9_10 : decode cJ9_min_f86c9 10 = .ok (.lload_n 2, 1) := by decide +kernel
theorem dJ9_min_f86c9_11 : decode cJ9_min_f86c9 11 = .ok (.lreturn, 1) := by decide +kernel
theorem dL_cell_0 : decode cL_cell 0 = .ok (.iload_n 1, 1) := by decide +kernel
theorem dL_cell_1 : decode cL_cell 1 = .ok (.aload_n 0, 1) := by decide +kernel
theorem dL_cell_2 : decode cL_cell 2 = .ok (.arraylength, 1) := by decide +kernel
theorem dL_cell_3 : decode cL_cell 3 = .ok (.if_icmp .ge 9, 3) := by decide +kernel
theorem dL_cell_6 : decode cL_cell 6 = .ok (.aload_n 0, 1) := by decide +kernel
theorem dL_cell_7 : decode cL_cell 7 = .ok (.iload_n 1, 1) := by decide +kernel
theorem dL_cell_8 : decode cL_cell 8 = .ok (.iaload, 1) := by decide +kernel
theorem dL_cell_9 : decode cL_cell 9 = .ok (.goto 18, 3) := by decide +kernel
theorem dL_cell_12 : decode cL_cell 12 = .ok (.sipush 7919, 3) := by decide +kernel
theorem dL_cell_15 : decode cL_cell 15 = .ok (.iload_n 1, 1) := by decide +kernel
theorem dL_cell_16 : decode cL_cell 16 = .ok (.sipush 2473, 3) := by decide +kernel
theorem dL_cell_19 : decode cL_cell 19 = .ok (.iadd, 1) := by decide +kernel
theorem dL_cell_20 : decode cL_cell 20 = .ok (.imul, 1) := by decide +kernel
theorem dL_cell_21 : decode cL_cell 21 = .ok (.iload_n 1, 1) := by decide +kernel
theorem dL_cell_22 : decode cL_cell 22 = .ok (.sipush 277, 3) := by decide +kernel
theorem dL_cell_25 : decode cL_cell 25 = .ok (.iadd, 1) := by decide +kernel
theorem dL_cell_26 : decode cL_cell 26 = .ok (.imul, 1) := by decide +kernel
theorem dL_cell_27 : decode cL_cell 27 = .ok (.ireturn, 1) := by decide +kernel
theorem dL_low_0 : decode cL_low 0 = .ok (.iload_n 0, 1) := by decide +kernel
theorem dL_low_1 : decode cL_low 1 = .ok (.ldc 7, 2) := by decide +kernel
theorem dL_low_3 : decode cL_low 3 = .ok (.iand, 1) := by decide +kernel
theorem dL_low_4 : decode cL_low 4 = .ok (.iload_n 1, 1) := by decide +kernel
theorem dL_low_5 : decode cL_low 5 = .ok (.irem, 1) := by decide +kernel
theorem dL_low_6 : decode cL_low 6 = .ok (.ireturn, 1) := by decide +kernel
theorem dL_broker_0 : decode cL_broker 0 = .ok (.aload_n 0, 1) := by decide +kernel
theorem dL_broker_1 : decode cL_broker 1 = .ok (.iload_n 1, 1) := by decide +kernel
theorem dL_broker_2 : decode cL_broker 2 = .ok (.iload_n 2, 1) := by decide +kernel
theorem dL_broker_3 : decode cL_broker 3 = .ok (.iload_n 3, 1) := by decide +kernel
theorem dL_broker_4 : decode cL_broker 4 = .ok (.invokevirtual 8, 3) := by decide +kernel
theorem dL_broker_7 : decode cL_broker 7 = .ok (.i2l, 1) := by decide +kernel
theorem dL_broker_8 : decode cL_broker 8 = .ok (.lreturn, 1) := by decide +kernel
theorem dL_broker_9 : decode cL_broker 9 = .ok (.astore 4, 2) := by decide +kernel
theorem dL_broker_11 : decode cL_broker 11 = .ok (.ldc2_w 16, 3) := by decide +kernel
theorem dL_broker_14 : decode cL_broker 14 = .ok (.lreturn, 1) := by decide +kernel
theorem dL_broker_15 : decode cL_broker 15 = .ok (.astore 4, 2) := by decide +kernel
theorem dL_broker_17 : decode cL_broker 17 = .ok (.ldc2_w 16, 3) := by decide +kernel
theorem dL_broker_20 : decode cL_broker 20 = .ok (.lreturn, 1) := by decide +kernel
theorem dL_broker_21 : decode cL_broker 21 = .ok (.astore 4, 2) := by decide +kernel
theorem dL_broker_23 : decode cL_broker 23 = .ok (.ldc2_w 16, 3) := by decide +kernel
theorem dL_broker_26 : decode cL_broker 26 = .ok (.lreturn, 1) := by decide +kernel
theorem dL_rate_0 : decode cL_rate 0 = .ok (.aload_n 0, 1) := by decide +kernel
theorem dL_rate_1 : decode cL_rate 1 = .ok (.iload_n 1, 1) := by decide +kernel
theorem dL_rate_2 : decode cL_rate 2 = .ok (.iload_n 2, 1) := by decide +kernel
theorem dL_rate_3 : decode cL_rate 3 = .ok (.invokevirtual 22, 3) := by decide +kernel
theorem dL_rate_6 : decode cL_rate 6 = .ok (.i2l, 1) := by decide +kernel
theorem dL_rate_7 : decode cL_rate 7 = .ok (.lreturn, 1) := by decide +kernel
theorem dL_rate_8 : decode cL_rate 8 = .ok (.astore_n 3, 1) := by decide +kernel
theorem dL_rate_9 : decode cL_rate 9 = .ok (.ldc2_w 16, 3) := by decide +kernel
theorem dL_rate_12 : decode cL_rate 12 = .ok (.lreturn, 1) := by decide +kernel
theorem dL_rate_13 : decode cL_rate 13 = .ok (.astore_n 3, 1) := by decide +kernel
theorem dL_rate_14 : decode cL_rate 14 = .ok (.ldc2_w 16, 3) := by decide +kernel
theorem dL_rate_17 : decode cL_rate 17 = .ok (.lreturn, 1) := by decide +kernel
theorem dL_trust_0 : decode cL_trust 0 = .ok (.aload_n 0, 1) := by decide +kernel
theorem dL_trust_1 : decode cL_trust 1 = .ok (.iload_n 1, 1) := by decide +kernel
theorem dL_trust_2 : decode cL_trust 2 = .ok (.iload_n 2, 1) := by decide +kernel
theorem dL_trust_3 : decode cL_trust 3 = .ok (.iload_n 3, 1) := by decide +kernel
theorem dL_trust_4 : decode cL_trust 4 = .ok (.iload 4, 2) := by decide +kernel
theorem dL_trust_6 : decode cL_trust 6 = .ok (.invokevirtual 26, 3) := by decide +kernel
theorem dL_trust_9 : decode cL_trust 9 = .ok (.lconst 0, 1) := by decide +kernel
theorem dL_trust_10 : decode cL_trust 10 = .ok (.lreturn, 1) := by decide +kernel
theorem dL_trust_11 : decode cL_trust 11 = .ok (.astore 5, 2) := by decide +kernel
theorem dL_trust_13 : decode cL_trust 13 = .ok (.ldc2_w 16, 3) := by decide +kernel
theorem dL_trust_16 : decode cL_trust 16 = .ok (.lreturn, 1) := by decide +kernel
theorem dL_trust_17 : decode cL_trust 17 = .ok (.astore 5, 2) := by decide +kernel
theorem dL_trust_19 : decode cL_trust 19 = .ok (.ldc2_w 16, 3) := by decide +kernel
theorem dL_trust_22 : decode cL_trust 22 = .ok (.lreturn, 1) := by decide +kernel
theorem dL_breakWord_0 : decode cL_breakWord 0 = .ok (.aload_n 0, 1) := by decide +kernel
theorem dL_breakWord_1 : decode cL_breakWord 1 = .ok (.iload_n 1, 1) := by decide +kernel
theorem dL_breakWord_2 : decode cL_breakWord 2 = .ok (.invokevirtual 30, 3) := by decide +kernel
theorem dL_breakWord_5 : decode cL_breakWord 5 = .ok (.i2l, 1) := by decide +kernel
theorem dL_breakWord_6 : decode cL_breakWord 6 = .ok (.lreturn, 1) := by decide +kernel
theorem dL_breakWord_7 : decode cL_breakWord 7 = .ok (.astore_n 2, 1) := by decide +kernel
theorem dL_breakWord_8 : decode cL_breakWord 8 = .ok (.ldc2_w 16, 3) := by decide +kernel
theorem dL_breakWord_11 : decode cL_breakWord 11 = .ok (.lreturn, 1) := by decide +kernel
theorem dL_breakWord_12 : decode cL_breakWord 12 = .ok (.astore_n 2, 1) := by decide +kernel
theorem dL_breakWord_13 : decode cL_breakWord 13 = .ok (.ldc2_w 16, 3) := by decide +kernel
theorem dL_breakWord_16 : decode cL_breakWord 16 = .ok (.lreturn, 1) := by decide +kernel
theorem dL_raid_0 : decode cL_raid 0 = .ok (.aload_n 0, 1) := by decide +kernel
theorem dL_raid_1 : decode cL_raid 1 = .ok (.iload_n 1, 1) := by decide +kernel
theorem dL_raid_2 : decode cL_raid 2 = .ok (.invokevirtual 34, 3) := by decide +kernel
theorem dL_raid_5 : decode cL_raid 5 = .ok (.i2l, 1) := by decide +kernel
theorem dL_raid_6 : decode cL_raid 6 = .ok (.lreturn, 1) := by decide +kernel
theorem dL_raid_7 : decode cL_raid 7 = .ok (.astore_n 2, 1) := by decide +kernel
theorem dL_raid_8 : decode cL_raid 8 = .ok (.ldc2_w 16, 3) := by decide +kernel
theorem dL_raid_11 : decode cL_raid 11 = .ok (.lreturn, 1) := by decide +kernel
theorem dL_raid_12 : decode cL_raid 12 = .ok (.astore_n 2, 1) := by decide +kernel
theorem dL_raid_13 : decode cL_raid 13 = .ok (.ldc2_w 16, 3) := by decide +kernel
theorem dL_raid_16 : decode cL_raid 16 = .ok (.lreturn, 1) := by decide +kernel
theorem dL_order_0 : decode cL_order 0 = .ok (.aload_n 0, 1) := by decide +kernel
theorem dL_order_1 : decode cL_order 1 = .ok (.iload_n 1, 1) := by decide +kernel
theorem dL_order_2 : decode cL_order 2 = .ok (.iload_n 2, 1) := by decide +kernel
theorem dL_order_3 : decode cL_order 3 = .ok (.iload_n 3, 1) := by decide +kernel
theorem dL_order_4 : decode cL_order 4 = .ok (.iload 4, 2) := by decide +kernel
theorem dL_order_6 : decode cL_order 6 = .ok (.iload 5, 2) := by decide +kernel
theorem dL_order_8 : decode cL_order 8 = .ok (.invokevirtual 37, 3) := by decide +kernel
theorem dL_order_11 : decode cL_order 11 = .ok (.i2l, 1) := by decide +kernel
theorem dL_order_12 : decode cL_order 12 = .ok (.lreturn, 1) := by decide +kernel
theorem dL_order_13 : decode cL_order 13 = .ok (.astore 6, 2) := by decide +kernel
theorem dL_order_15 : decode cL_order 15 = .ok (.ldc2_w 16, 3) := by decide +kernel
theorem dL_order_18 : decode cL_order 18 = .ok (.lreturn, 1) := by decide +kernel
theorem dL_order_19 : decode cL_order 19 = .ok (.astore 6, 2) := by decide +kernel
theorem dL_order_21 : decode cL_order 21 = .ok (.ldc2_w 16, 3) := by decide +kernel
theorem dL_order_24 : decode cL_order 24 = .ok (.lreturn, 1) := by decide +kernel
theorem dL_order_25 : decode cL_order 25 = .ok (.astore 6, 2) := by decide +kernel
theorem dL_order_27 : decode cL_order 27 = .ok (.ldc2_w 16, 3) := by decide +kernel
theorem dL_order_30 : decode cL_order 30 = .ok (.lreturn, 1) := by decide +kernel
theorem dL_fetch_0 : decode cL_fetch 0 = .ok (.aload_n 0, 1) := by decide +kernel
theorem dL_fetch_1 : decode cL_fetch 1 = .ok (.iload_n 1, 1) := by decide +kernel
theorem dL_fetch_2 : decode cL_fetch 2 = .ok (.iload_n 2, 1) := by decide +kernel
theorem dL_fetch_3 : decode cL_fetch 3 = .ok (.invokevirtual 41, 3) := by decide +kernel
theorem dL_fetch_6 : decode cL_fetch 6 = .ok (.i2l, 1) := by decide +kernel
theorem dL_fetch_7 : decode cL_fetch 7 = .ok (.lreturn, 1) := by decide +kernel
theorem dL_fetch_8 : decode cL_fetch 8 = .ok (.astore_n 3, 1) := by decide +kernel
theorem dL_fetch_9 : decode cL_fetch 9 = .ok (.ldc2_w 16, 3) := by decide +kernel
theorem dL_fetch_12 : decode cL_fetch 12 = .ok (.lreturn, 1) := by decide +kernel
theorem dL_fetch_13 : decode cL_fetch 13 = .ok (.astore_n 3, 1) := by decide +kernel
theorem dL_fetch_14 : decode cL_fetch 14 = .ok (.ldc2_w 16, 3) := by decide +kernel
theorem dL_fetch_17 : decode cL_fetch 17 = .ok (.lreturn, 1) := by decide +kernel
theorem dL_fetch_18 : decode cL_fetch 18 = .ok (.astore_n 3, 1) := by decide +kernel
theorem dL_fetch_19 : decode cL_fetch 19 = .ok (.ldc2_w 16, 3) := by decide +kernel
theorem dL_fetch_22 : decode cL_fetch 22 = .ok (.lreturn, 1) := by decide +kernel
theorem dL_pass_0 : decode cL_pass 0 = .ok (.aload_n 0, 1) := by decide +kernel
theorem dL_pass_1 : decode cL_pass 1 = .ok (.iload_n 1, 1) := by decide +kernel
theorem dL_pass_2 : decode cL_pass 2 = .ok (.invokevirtual 44, 3) := by decide +kernel
theorem dL_pass_5 : decode cL_pass 5 = .ok (.i2l, 1) := by decide +kernel
theorem dL_pass_6 : decode cL_pass 6 = .ok (.lreturn, 1) := by decide +kernel
theorem dL_pass_7 : decode cL_pass 7 = .ok (.astore_n 2, 1) := by decide +kernel
theorem dL_pass_8 : decode cL_pass 8 = .ok (.ldc2_w 16, 3) := by decide +kernel
theorem dL_pass_11 : decode cL_pass 11 = .ok (.lreturn, 1) := by decide +kernel
theorem dL_pay_0 : decode cL_pay 0 = .ok (.aload_n 0, 1) := by decide +kernel
theorem dL_pay_1 : decode cL_pay 1 = .ok (.iload_n 1, 1) := by decide +kernel
theorem dL_pay_2 : decode cL_pay 2 = .ok (.iload_n 2, 1) := by decide +kernel
theorem dL_pay_3 : decode cL_pay 3 = .ok (.iload_n 3, 1) := by decide +kernel
theorem dL_pay_4 : decode cL_pay 4 = .ok (.invokevirtual 47, 3) := by decide +kernel
theorem dL_pay_7 : decode cL_pay 7 = .ok (.i2l, 1) := by decide +kernel
theorem dL_pay_8 : decode cL_pay 8 = .ok (.lreturn, 1) := by decide +kernel
theorem dL_pay_9 : decode cL_pay 9 = .ok (.astore 4, 2) := by decide +kernel
theorem dL_pay_11 : decode cL_pay 11 = .ok (.ldc2_w 16, 3) := by decide +kernel
theorem dL_pay_14 : decode cL_pay 14 = .ok (.lreturn, 1) := by decide +kernel
theorem dL_pay_15 : decode cL_pay 15 = .ok (.astore 4, 2) := by decide +kernel
theorem dL_pay_17 : decode cL_pay 17 = .ok (.ldc2_w 16, 3) := by decide +kernel
theorem dL_pay_20 : decode cL_pay 20 = .ok (.lreturn, 1) := by decide +kernel
theorem dL_pay_21 : decode cL_pay 21 = .ok (.astore 4, 2) := by decide +kernel
theorem dL_pay_23 : decode cL_pay 23 = .ok (.ldc2_w 16, 3) := by decide +kernel
theorem dL_pay_26 : decode cL_pay 26 = .ok (.lreturn, 1) := by decide +kernel
theorem dL_deliver_0 : decode cL_deliver 0 = .ok (.aload_n 0, 1) := by decide +kernel
theorem dL_deliver_1 : decode cL_deliver 1 = .ok (.iload_n 1, 1) := by decide +kernel
theorem dL_deliver_2 : decode cL_deliver 2 = .ok (.iload_n 2, 1) := by decide +kernel
theorem dL_deliver_3 : decode cL_deliver 3 = .ok (.iload_n 3, 1) := by decide +kernel
theorem dL_deliver_4 : decode cL_deliver 4 = .ok (.invokevirtual 50, 3) := by decide +kernel
theorem dL_deliver_7 : decode cL_deliver 7 = .ok (.i2l, 1) := by decide +kernel
theorem dL_deliver_8 : decode cL_deliver 8 = .ok (.lreturn, 1) := by decide +kernel
theorem dL_deliver_9 : decode cL_deliver 9 = .ok (.astore 4, 2) := by decide +kernel
theorem dL_deliver_11 : decode cL_deliver 11 = .ok (.ldc2_w 16, 3) := by decide +kernel
theorem dL_deliver_14 : decode cL_deliver 14 = .ok (.lreturn, 1) := by decide +kernel
theorem dL_deliver_15 : decode cL_deliver 15 = .ok (.astore 4, 2) := by decide +kernel
theorem dL_deliver_17 : decode cL_deliver 17 = .ok (.ldc2_w 16, 3) := by decide +kernel
theorem dL_deliver_20 : decode cL_deliver 20 = .ok (.lreturn, 1) := by decide +kernel
theorem dL_deliver_21 : decode cL_deliver 21 = .ok (.astore 4, 2) := by decide +kernel
theorem dL_deliver_23 : decode cL_deliver 23 = .ok (.ldc2_w 16, 3) := by decide +kernel
theorem dL_deliver_26 : decode cL_deliver 26 = .ok (.lreturn, 1) := by decide +kernel
theorem dL_courier_0 : decode cL_courier 0 = .ok (.aload_n 0, 1) := by decide +kernel
theorem dL_courier_1 : decode cL_courier 1 = .ok (.iload_n 1, 1) := by decide +kernel
theorem dL_courier_2 : decode cL_courier 2 = .ok (.iload_n 2, 1) := by decide +kernel
theorem dL_courier_3 : decode cL_courier 3 = .ok (.iload_n 3, 1) := by decide +kernel
theorem dL_courier_4 : decode cL_courier 4 = .ok (.iload 4, 2) := by decide +kernel
theorem dL_courier_6 : decode cL_courier 6 = .ok (.invokevirtual 53, 3) := by decide +kernel
theorem dL_courier_9 : decode cL_courier 9 = .ok (.i2l, 1) := by decide +kernel
theorem dL_courier_10 : decode cL_courier 10 = .ok (.lreturn, 1) := by decide +kernel
theorem dL_courier_11 : decode cL_courier 11 = .ok (.astore 5, 2) := by decide +kernel
theorem dL_courier_13 : decode cL_courier 13 = .ok (.ldc2_w 16, 3) := by decide +kernel
theorem dL_courier_16 : decode cL_courier 16 = .ok (.lreturn, 1) := by decide +kernel
theorem dL_courier_17 : decode cL_courier 17 = .ok (.astore 5, 2) := by decide +kernel
theorem dL_courier_19 : decode cL_courier 19 = .ok (.ldc2_w 16, 3) := by decide +kernel
theorem dL_courier_22 : decode cL_courier 22 = .ok (.lreturn, 1) := by decide +kernel
theorem dL_courier_23 : decode cL_courier 23 = .ok (.astore 5, 2) := by decide +kernel
theorem dL_courier_25 : decode cL_courier 25 = .ok (.ldc2_w 16, 3) := by decide +kernel
theorem dL_courier_28 : decode cL_courier 28 = .ok (.lreturn, 1) := by decide +kernel
theorem dL_rob_0 : decode cL_rob 0 = .ok (.aload_n 0, 1) := by decide +kernel
theorem dL_rob_1 : decode cL_rob 1 = .ok (.iload_n 1, 1) := by decide +kernel
theorem dL_rob_2 : decode cL_rob 2 = .ok (.invokevirtual 57, 3) := by decide +kernel
theorem dL_rob_5 : decode cL_rob 5 = .ok (.i2l, 1) := by decide +kernel
theorem dL_rob_6 : decode cL_rob 6 = .ok (.lreturn, 1) := by decide +kernel
theorem dL_rob_7 : decode cL_rob 7 = .ok (.astore_n 2, 1) := by decide +kernel
theorem dL_rob_8 : decode cL_rob 8 = .ok (.ldc2_w 16, 3) := by decide +kernel
theorem dL_rob_11 : decode cL_rob 11 = .ok (.lreturn, 1) := by decide +kernel
theorem dL_rob_12 : decode cL_rob 12 = .ok (.astore_n 2, 1) := by decide +kernel
theorem dL_rob_13 : decode cL_rob 13 = .ok (.ldc2_w 16, 3) := by decide +kernel
theorem dL_rob_16 : decode cL_rob 16 = .ok (.lreturn, 1) := by decide +kernel
theorem dL_lawOf_0 : decode cL_lawOf 0 = .ok (.aload_n 0, 1) := by decide +kernel
theorem dL_lawOf_1 : decode cL_lawOf 1 = .ok (.iload_n 1, 1) := by decide +kernel
theorem dL_lawOf_2 : decode cL_lawOf 2 = .ok (.iload_n 2, 1) := by decide +kernel
theorem dL_lawOf_3 : decode cL_lawOf 3 = .ok (.invokevirtual 60, 3) := by decide +kernel
theorem dL_lawOf_6 : decode cL_lawOf 6 = .ok (.i2l, 1) := by decide +kernel
theorem dL_lawOf_7 : decode cL_lawOf 7 = .ok (.lreturn, 1) := by decide +kernel
theorem dL_lawOf_8 : decode cL_lawOf 8 = .ok (.astore_n 3, 1) := by decide +kernel
theorem dL_lawOf_9 : decode cL_lawOf 9 = .ok (.ldc2_w 16, 3) := by decide +kernel
theorem dL_lawOf_12 : decode cL_lawOf 12 = .ok (.lreturn, 1) := by decide +kernel
theorem dL_lawOf_13 : decode cL_lawOf 13 = .ok (.astore_n 3, 1) := by decide +kernel
theorem dL_lawOf_14 : decode cL_lawOf 14 = .ok (.ldc2_w 16, 3) := by decide +kernel
theorem dL_lawOf_17 : decode cL_lawOf 17 = .ok (.lreturn, 1) := by decide +kernel
theorem dL_list_0 : decode cL_list 0 = .ok (.aload_n 0, 1) := by decide +kernel
theorem dL_list_1 : decode cL_list 1 = .ok (.iload_n 1, 1) := by decide +kernel
theorem dL_list_2 : decode cL_list 2 = .ok (.invokevirtual 63, 3) := by decide +kernel
theorem dL_list_5 : decode cL_list 5 = .ok (.ifCond .eq 7, 3) := by decide +kernel
theorem dL_list_8 : decode cL_list 8 = .ok (.lconst 1, 1) := by decide +kernel
theorem dL_list_9 : decode cL_list 9 = .ok (.goto 4, 3) := by decide +kernel
theorem dL_list_12 : decode cL_list 12 = .ok (.lconst 0, 1) := by decide +kernel
theorem dL_list_13 : decode cL_list 13 = .ok (.lreturn, 1) := by decide +kernel
theorem dL_list_14 : decode cL_list 14 = .ok (.astore_n 2, 1) := by decide +kernel
theorem dL_list_15 : decode cL_list 15 = .ok (.ldc2_w 16, 3) := by decide +kernel
theorem dL_list_18 : decode cL_list 18 = .ok (.lreturn, 1) := by decide +kernel
theorem dL_brokerOf_0 : decode cL_brokerOf 0 = .ok (.aload_n 0, 1) := by decide +kernel
theorem dL_brokerOf_1 : decode cL_brokerOf 1 = .ok (.iload_n 1, 1) := by decide +kernel
theorem dL_brokerOf_2 : decode cL_brokerOf 2 = .ok (.iload_n 2, 1) := by decide +kernel
theorem dL_brokerOf_3 : decode cL_brokerOf 3 = .ok (.invokevirtual 67, 3) := by decide +kernel
theorem dL_brokerOf_6 : decode cL_brokerOf 6 = .ok (.lreturn, 1) := by decide +kernel
theorem dL_brokerOf_7 : decode cL_brokerOf 7 = .ok (.astore_n 3, 1) := by decide +kernel
theorem dL_brokerOf_8 : decode cL_brokerOf 8 = .ok (.ldc2_w 16, 3) := by decide +kernel
theorem dL_brokerOf_11 : decode cL_brokerOf 11 = .ok (.lreturn, 1) := by decide +kernel
theorem dL_brokerOf_12 : decode cL_brokerOf 12 = .ok (.astore_n 3, 1) := by decide +kernel
theorem dL_brokerOf_13 : decode cL_brokerOf 13 = .ok (.ldc2_w 16, 3) := by decide +kernel
theorem dL_brokerOf_16 : decode cL_brokerOf 16 = .ok (.lreturn, 1) := by decide +kernel
theorem dL_debt_0 : decode cL_debt 0 = .ok (.aload_n 0, 1) := by decide +kernel
theorem dL_debt_1 : decode cL_debt 1 = .ok (.iload_n 1, 1) := by decide +kernel
theorem dL_debt_2 : decode cL_debt 2 = .ok (.iload_n 2, 1) := by decide +kernel
theorem dL_debt_3 : decode cL_debt 3 = .ok (.iload_n 3, 1) := by decide +kernel
theorem dL_debt_4 : decode cL_debt 4 = .ok (.invokevirtual 71, 3) := by decide +kernel
theorem dL_debt_7 : decode cL_debt 7 = .ok (.lreturn, 1) := by decide +kernel
theorem dL_debt_8 : decode cL_debt 8 = .ok (.astore 4, 2) := by decide +kernel
theorem dL_debt_10 : decode cL_debt 10 = .ok (.ldc2_w 16, 3) := by decide +kernel
theorem dL_debt_13 : decode cL_debt 13 = .ok (.lreturn, 1) := by decide +kernel
theorem dL_way_0 : decode cL_way 0 = .ok (.aload_n 0, 1) := by decide +kernel
theorem dL_way_1 : decode cL_way 1 = .ok (.iload_n 1, 1) := by decide +kernel
theorem dL_way_2 : decode cL_way 2 = .ok (.iload_n 2, 1) := by decide +kernel
theorem dL_way_3 : decode cL_way 3 = .ok (.iload_n 3, 1) := by decide +kernel
theorem dL_way_4 : decode cL_way 4 = .ok (.iload 4, 2) := by decide +kernel
theorem dL_way_6 : decode cL_way 6 = .ok (.invokevirtual 79, 3) := by decide +kernel
theorem dL_way_9 : decode cL_way 9 = .ok (.i2l, 1) := by decide +kernel
theorem dL_way_10 : decode cL_way 10 = .ok (.lreturn, 1) := by decide +kernel
theorem dL_way_11 : decode cL_way 11 = .ok (.astore 5, 2) := by decide +kernel
theorem dL_way_13 : decode cL_way 13 = .ok (.ldc2_w 16, 3) := by decide +kernel
theorem dL_way_16 : decode cL_way 16 = .ok (.lreturn, 1) := by decide +kernel
theorem dL_way_17 : decode cL_way 17 = .ok (.astore 5, 2) := by decide +kernel
theorem dL_way_19 : decode cL_way 19 = .ok (.ldc2_w 16, 3) := by decide +kernel
theorem dL_way_22 : decode cL_way 22 = .ok (.lreturn, 1) := by decide +kernel
theorem dL_wayOf_0 : decode cL_wayOf 0 = .ok (.aload_n 0, 1) := by decide +kernel
theorem dL_wayOf_1 : decode cL_wayOf 1 = .ok (.iload_n 1, 1) := by decide +kernel
theorem dL_wayOf_2 : decode cL_wayOf 2 = .ok (.iload_n 2, 1) := by decide +kernel
theorem dL_wayOf_3 : decode cL_wayOf 3 = .ok (.invokevirtual 82, 3) := by decide +kernel
theorem dL_wayOf_6 : decode cL_wayOf 6 = .ok (.i2l, 1) := by decide +kernel
theorem dL_wayOf_7 : decode cL_wayOf 7 = .ok (.lreturn, 1) := by decide +kernel
theorem dL_wayOf_8 : decode cL_wayOf 8 = .ok (.astore_n 3, 1) := by decide +kernel
theorem dL_wayOf_9 : decode cL_wayOf 9 = .ok (.ldc2_w 16, 3) := by decide +kernel
theorem dL_wayOf_12 : decode cL_wayOf 12 = .ok (.lreturn, 1) := by decide +kernel
theorem dL_orderOf_0 : decode cL_orderOf 0 = .ok (.aload_n 0, 1) := by decide +kernel
theorem dL_orderOf_1 : decode cL_orderOf 1 = .ok (.iload_n 1, 1) := by decide +kernel
theorem dL_orderOf_2 : decode cL_orderOf 2 = .ok (.iload_n 2, 1) := by decide +kernel
theorem dL_orderOf_3 : decode cL_orderOf 3 = .ok (.invokevirtual 85, 3) := by decide +kernel
theorem dL_orderOf_6 : decode cL_orderOf 6 = .ok (.i2l, 1) := by decide +kernel
theorem dL_orderOf_7 : decode cL_orderOf 7 = .ok (.lreturn, 1) := by decide +kernel
theorem dL_orderOf_8 : decode cL_orderOf 8 = .ok (.astore_n 3, 1) := by decide +kernel
theorem dL_orderOf_9 : decode cL_orderOf 9 = .ok (.ldc2_w 16, 3) := by decide +kernel
theorem dL_orderOf_12 : decode cL_orderOf 12 = .ok (.lreturn, 1) := by decide +kernel
theorem dL_orderOf_13 : decode cL_orderOf 13 = .ok (.astore_n 3, 1) := by decide +kernel
theorem dL_orderOf_14 : decode cL_orderOf 14 = .ok (.ldc2_w 16, 3) := by decide +kernel
theorem dL_orderOf_17 : decode cL_orderOf 17 = .ok (.lreturn, 1) := by decide +kernel
theorem dL_sum_0 : decode cL_sum 0 = .ok (.aload_n 0, 1) := by decide +kernel
theorem dL_sum_1 : decode cL_sum 1 = .ok (.iload_n 1, 1) := by decide +kernel
theorem dL_sum_2 : decode cL_sum 2 = .ok (.invokevirtual 88, 3) := by decide +kernel
theorem dL_sum_5 : decode cL_sum 5 = .ok (.lreturn, 1) := by decide +kernel
theorem dL_sum_6 : decode cL_sum 6 = .ok (.astore_n 2, 1) := by decide +kernel
theorem dL_sum_7 : decode cL_sum 7 = .ok (.ldc2_w 16, 3) := by decide +kernel
theorem dL_sum_10 : decode cL_sum 10 = .ok (.lreturn, 1) := by decide +kernel
theorem dL_act_0 : decode cL_act 0 = .ok (.iload_n 1, 1) := by decide +kernel
theorem dL_act_1 : decode cL_act 1 = .ok (.bipush 26, 2) := by decide +kernel
theorem dL_act_3 : decode cL_act 3 = .ok (.ishr, 1) := by decide +kernel
theorem dL_act_4 : decode cL_act 4 = .ok (.bipush 14, 2) := by decide +kernel
theorem dL_act_6 : decode cL_act 6 = .ok (.invokestatic 92, 3) := by decide +kernel
theorem dL_act_9 : decode cL_act 9 = .ok (.ifCond .ne 7, 3) := by decide +kernel
theorem dL_act_12 : decode cL_act 12 = .ok (.iconst 1, 1) := by decide +kernel
theorem dL_act_13 : decode cL_act 13 = .ok (.goto 4, 3) := by decide +kernel
theorem dL_act_16 : decode cL_act 16 = .ok (.iconst 0, 1) := by decide +kernel
theorem dL_act_17 : decode cL_act 17 = .ok (.istore_n 2, 1) := by decide +kernel
theorem dL_act_18 : decode cL_act 18 = .ok (.iload_n 2, 1) := by decide +kernel
theorem dL_act_19 : decode cL_act 19 = .ok (.ifCond .eq 16, 3) := by decide +kernel
theorem dL_act_22 : decode cL_act 22 = .ok (.iload_n 1, 1) := by decide +kernel
theorem dL_act_23 : decode cL_act 23 = .ok (.iconst 5, 1) := by decide +kernel
theorem dL_act_24 : decode cL_act 24 = .ok (.ishr, 1) := by decide +kernel
theorem dL_act_25 : decode cL_act 25 = .ok (.bipush 15, 2) := by decide +kernel
theorem dL_act_27 : decode cL_act 27 = .ok (.invokestatic 92, 3) := by decide +kernel
theorem dL_act_30 : decode cL_act 30 = .ok (.iconst 2, 1) := by decide +kernel
theorem dL_act_31 : decode cL_act 31 = .ok (.isub, 1) := by decide +kernel
theorem dL_act_32 : decode cL_act 32 = .ok (.goto 10, 3) := by decide +kernel
theorem dL_act_35 : decode cL_act 35 = .ok (.iload_n 1, 1) := by decide +kernel
theorem dL_act_36 : decode cL_act 36 = .ok (.iconst 5, 1) := by decide +kernel
theorem dL_act_37 : decode cL_act 37 = .ok (.ishr, 1) := by decide +kernel
theorem dL_act_38 : decode cL_act 38 = .ok (.iconst 5, 1) := by decide +kernel
theorem dL_act_39 : decode cL_act 39 = .ok (.invokestatic 92, 3) := by decide +kernel
theorem dL_act_42 : decode cL_act 42 = .ok (.istore_n 3, 1) := by decide +kernel
theorem dL_act_43 : decode cL_act 43 = .ok (.iload_n 2, 1) := by decide +kernel
theorem dL_act_44 : decode cL_act 44 = .ok (.ifCond .eq 17, 3) := by decide +kernel
theorem dL_act_47 : decode cL_act 47 = .ok (.iload_n 1, 1) := by decide +kernel
theorem dL_act_48 : decode cL_act 48 = .ok (.bipush 8, 2) := by decide +kernel
theorem dL_act_50 : decode cL_act 50 = .ok (.ishr, 1) := by decide +kernel
theorem dL_act_51 : decode cL_act 51 = .ok (.bipush 15, 2) := by decide +kernel
theorem dL_act_53 : decode cL_act 53 = .ok (.invokestatic 92, 3) := by decide +kernel
theorem dL_act_56 : decode cL_act 56 = .ok (.iconst 2, 1) := by decide +kernel
theorem dL_act_57 : decode cL_act 57 = .ok (.isub, 1) := by decide +kernel
theorem dL_act_58 : decode cL_act 58 = .ok (.goto 11, 3) := by decide +kernel
theorem dL_act_61 : decode cL_act 61 = .ok (.iload_n 1, 1) := by decide +kernel
theorem dL_act_62 : decode cL_act 62 = .ok (.bipush 8, 2) := by decide +kernel
theorem dL_act_64 : decode cL_act 64 = .ok (.ishr, 1) := by decide +kernel
theorem dL_act_65 : decode cL_act 65 = .ok (.iconst 5, 1) := by decide +kernel
theorem dL_act_66 : decode cL_act 66 = .ok (.invokestatic 92, 3) := by decide +kernel
theorem dL_act_69 : decode cL_act 69 = .ok (.istore 4, 2) := by decide +kernel
theorem dL_act_71 : decode cL_act 71 = .ok (.iload_n 2, 1) := by decide +kernel
theorem dL_act_72 : decode cL_act 72 = .ok (.ifCond .eq 17, 3) := by decide +kernel
theorem dL_act_75 : decode cL_act 75 = .ok (.iload_n 1, 1) := by decide +kernel
theorem dL_act_76 : decode cL_act 76 = .ok (.bipush 11, 2) := by decide +kernel
theorem dL_act_78 : decode cL_act 78 = .ok (.ishr, 1) := by decide +kernel
theorem dL_act_79 : decode cL_act 79 = .ok (.bipush 44, 2) := by decide +kernel
theorem dL_act_81 : decode cL_act 81 = .ok (.invokestatic 92, 3) := by decide +kernel
theorem dL_act_84 : decode cL_act 84 = .ok (.iconst 2, 1) := by decide +kernel
theorem dL_act_85 : decode cL_act 85 = .ok (.isub, 1) := by decide +kernel
theorem dL_act_86 : decode cL_act 86 = .ok (.goto 12, 3) := by decide +kernel
theorem dL_act_89 : decode cL_act 89 = .ok (.iload_n 1, 1) := by decide +kernel
theorem dL_act_90 : decode cL_act 90 = .ok (.bipush 11, 2) := by decide +kernel
theorem dL_act_92 : decode cL_act 92 = .ok (.ishr, 1) := by decide +kernel
theorem dL_act_93 : decode cL_act 93 = .ok (.bipush 8, 2) := by decide +kernel
theorem dL_act_95 : decode cL_act 95 = .ok (.invokestatic 92, 3) := by decide +kernel
theorem dL_act_98 : decode cL_act 98 = .ok (.istore 5, 2) := by decide +kernel
theorem dL_act_100 : decode cL_act 100 = .ok (.iload_n 2, 1) := by decide +kernel
theorem dL_act_101 : decode cL_act 101 = .ok (.ifCond .eq 17, 3) := by decide +kernel
theorem dL_act_104 : decode cL_act 104 = .ok (.iload_n 1, 1) := by decide +kernel
theorem dL_act_105 : decode cL_act 105 = .ok (.bipush 14, 2) := by decide +kernel
theorem dL_act_107 : decode cL_act 107 = .ok (.ishr, 1) := by decide +kernel
theorem dL_act_108 : decode cL_act 108 = .ok (.bipush 10, 2) := by decide +kernel
theorem dL_act_110 : decode cL_act 110 = .ok (.invokestatic 92, 3) := by decide +kernel
theorem dL_act_113 : decode cL_act 113 = .ok (.iconst 1, 1) := by decide +kernel
theorem dL_act_114 : decode cL_act 114 = .ok (.isub, 1) := by decide +kernel
theorem dL_act_115 : decode cL_act 115 = .ok (.goto 11, 3) := by decide +kernel
theorem dL_act_118 : decode cL_act 118 = .ok (.iload_n 1, 1) := by decide +kernel
theorem dL_act_119 : decode cL_act 119 = .ok (.bipush 14, 2) := by decide +kernel
theorem dL_act_121 : decode cL_act 121 = .ok (.ishr, 1) := by decide +kernel
theorem dL_act_122 : decode cL_act 122 = .ok (.iconst 3, 1) := by decide +kernel
theorem dL_act_123 : decode cL_act 123 = .ok (.invokestatic 92, 3) := by decide +kernel
theorem dL_act_126 : decode cL_act 126 = .ok (.istore 6, 2) := by decide +kernel
theorem dL_act_128 : decode cL_act 128 = .ok (.iload_n 2, 1) := by decide +kernel
theorem dL_act_129 : decode cL_act 129 = .ok (.ifCond .eq 10, 3) := by decide +kernel
theorem dL_act_132 : decode cL_act 132 = .ok (.iload_n 1, 1) := by decide +kernel
theorem dL_act_133 : decode cL_act 133 = .ok (.bipush 9, 2) := by decide +kernel
theorem dL_act_135 : decode cL_act 135 = .ok (.ishr, 1) := by decide +kernel
theorem dL_act_136 : decode cL_act 136 = .ok (.goto 15, 3) := by decide +kernel
theorem dL_act_139 : decode cL_act 139 = .ok (.iconst 1, 1) := by decide +kernel
theorem dL_act_140 : decode cL_act 140 = .ok (.iload_n 1, 1) := by decide +kernel
theorem dL_act_141 : decode cL_act 141 = .ok (.bipush 9, 2) := by decide +kernel
theorem dL_act_143 : decode cL_act 143 = .ok (.ishr, 1) := by decide +kernel
theorem dL_act_144 : decode cL_act 144 = .ok (.sipush 600, 3) := by decide +kernel
theorem dL_act_147 : decode cL_act 147 = .ok (.invokestatic 92, 3) := by decide +kernel
theorem dL_act_150 : decode cL_act 150 = .ok (.iadd, 1) := by decide +kernel
theorem dL_act_151 : decode cL_act 151 = .ok (.istore 7, 2) := by decide +kernel
theorem dL_act_153 : decode cL_act 153 = .ok (.iload_n 1, 1) := by decide +kernel
theorem dL_act_154 : decode cL_act 154 = .ok (.bipush 32, 2) := by decide +kernel
theorem dL_act_156 : decode cL_act 156 = .ok (.invokestatic 92, 3) := by decide +kernel
theorem dL_act_159 : decode cL_act 159 = .ok (.tableswitch 620 0 30 #[137, 137, 181, 205, 205, 205, 205, 251, 283, 325, 325, 325, 325, 325, 370, 370, 370, 370, 394, 394, 394, 435, 445, 455, 485, 507, 512, 521, 548, 572, 597], 137) := by decide +kernel
theorem dL_act_296 : decode cL_act 296 = .ok (.aload_n 0, 1) := by decide +kernel
theorem dL_act_297 : decode cL_act 297 = .ok (.iload 6, 2) := by decide +kernel
theorem dL_act_299 : decode cL_act 299 = .ok (.iload_n 2, 1) := by decide +kernel
theorem dL_act_300 : decode cL_act 300 = .ok (.ifCond .eq 8, 3) := by decide +kernel
theorem dL_act_303 : decode cL_act 303 = .ok (.iload 7, 2) := by decide +kernel
theorem dL_act_305 : decode cL_act 305 = .ok (.goto 13, 3) := by decide +kernel
theorem dL_act_308 : decode cL_act 308 = .ok (.iload_n 1, 1) := by decide +kernel
theorem dL_act_309 : decode cL_act 309 = .ok (.bipush 9, 2) := by decide +kernel
theorem dL_act_311 : decode cL_act 311 = .ok (.ishr, 1) := by decide +kernel
theorem dL_act_312 : decode cL_act 312 = .ok (.sipush 3000, 3) := by decide +kernel
theorem dL_act_315 : decode cL_act 315 = .ok (.invokestatic 92, 3) := by decide +kernel
theorem dL_act_318 : decode cL_act 318 = .ok (.iload_n 2, 1) := by decide +kernel
theorem dL_act_319 : decode cL_act 319 = .ok (.ifCond .eq 9, 3) := by decide +kernel
theorem dL_act_322 : decode cL_act 322 = .ok (.iload_n 1, 1) := by decide +kernel
theorem dL_act_323 : decode cL_act 323 = .ok (.iconst 3, 1) := by decide +kernel
theorem dL_act_324 : decode cL_act 324 = .ok (.ishr, 1) := by decide +kernel
theorem dL_act_325 : decode cL_act 325 = .ok (.goto 11, 3) := by decide +kernel
theorem dL_act_328 : decode cL_act 328 = .ok (.iload_n 1, 1) := by decide +kernel
theorem dL_act_329 : decode cL_act 329 = .ok (.iconst 3, 1) := by decide +kernel
theorem dL_act_330 : decode cL_act 330 = .ok (.ishr, 1) := by decide +kernel
theorem dL_act_331 : decode cL_act 331 = .ok (.bipush 60, 2) := by decide +kernel
theorem dL_act_333 : decode cL_act 333 = .ok (.invokestatic 92, 3) := by decide +kernel
theorem dL_act_336 : decode cL_act 336 = .ok (.invokestatic 97, 3) := by decide +kernel
theorem dL_act_339 : decode cL_act 339 = .ok (.lreturn, 1) := by decide +kernel
theorem dL_act_340 : decode cL_act 340 = .ok (.aload_n 0, 1) := by decide +kernel
theorem dL_act_341 : decode cL_act 341 = .ok (.iload_n 3, 1) := by decide +kernel
theorem dL_act_342 : decode cL_act 342 = .ok (.iload_n 2, 1) := by decide +kernel
theorem dL_act_343 : decode cL_act 343 = .ok (.ifCond .eq 8, 3) := by decide +kernel
theorem dL_act_346 : decode cL_act 346 = .ok (.iload 7, 2) := by decide +kernel
theorem dL_act_348 : decode cL_act 348 = .ok (.goto 12, 3) := by decide +kernel
theorem dL_act_351 : decode cL_act 351 = .ok (.iload_n 1, 1) := by decide +kernel
theorem dL_act_352 : decode cL_act 352 = .ok (.bipush 9, 2) := by decide +kernel
theorem dL_act_354 : decode cL_act 354 = .ok (.ishr, 1) := by decide +kernel
theorem dL_act_355 : decode cL_act 355 = .ok (.bipush 60, 2) := by decide +kernel
theorem dL_act_357 : decode cL_act 357 = .ok (.invokestatic 92, 3) := by decide +kernel
theorem dL_act_360 : decode cL_act 360 = .ok (.invokestatic 100, 3) := by decide +kernel
theorem dL_act_363 : decode cL_act 363 = .ok (.lreturn, 1) := by decide +kernel
theorem dL_act_364 : decode cL_act 364 = .ok (.aload_n 0, 1) := by decide +kernel
theorem dL_act_365 : decode cL_act 365 = .ok (.iload_n 3, 1) := by decide +kernel
theorem dL_act_366 : decode cL_act 366 = .ok (.iload 4, 2) := by decide +kernel
theorem dL_act_368 : decode cL_act 368 = .ok (.iload_n 2, 1) := by decide +kernel
theorem dL_act_369 : decode cL_act 369 = .ok (.ifCond .eq 8, 3) := by decide +kernel
theorem dL_act_372 : decode cL_act 372 = .ok (.iload 7, 2) := by decide +kernel
theorem dL_act_374 : decode cL_act 374 = .ok (.goto 17, 3) := by decide +kernel
theorem dL_act_377 : decode cL_act 377 = .ok (.sipush 500, 3) := by decide +kernel
theorem dL_act_380 : decode cL_act 380 = .ok (.iload_n 1, 1) := by decide +kernel
theorem dL_act_381 : decode cL_act 381 = .ok (.bipush 9, 2) := by decide +kernel
theorem dL_act_383 : decode cL_act 383 = .ok (.ishr, 1) := by decide +kernel
theorem dL_act_384 : decode cL_act 384 = .ok (.sipush 3000, 3) := by decide +kernel
theorem dL_act_387 : decode cL_act 387 = .ok (.invokestatic 92, 3) := by decide +kernel
theorem dL_act_390 : decode cL_act 390 = .ok (.iadd, 1) := by decide +kernel
theorem dL_act_391 : decode cL_act 391 = .ok (.iload_n 1, 1) := by decide +kernel
theorem dL_act_392 : decode cL_act 392 = .ok (.bipush 20, 2) := by decide +kernel
theorem dL_act_394 : decode cL_act 394 = .ok (.ishr, 1) := by decide +kernel
theorem dL_act_395 : decode cL_act 395 = .ok (.iconst 1, 1) := by decide +kernel
theorem dL_act_396 : decode cL_act 396 = .ok (.iand, 1) := by decide +kernel
theorem dL_act_397 : decode cL_act 397 = .ok (.iconst 1, 1) := by decide +kernel
theorem dL_act_398 : decode cL_act 398 = .ok (.if_icmp .ne 7, 3) := by decide +kernel
theorem dL_act_401 : decode cL_act 401 = .ok (.iconst 1, 1) := by decide +kernel
theorem dL_act_402 : decode cL_act 402 = .ok (.goto 4, 3) := by decide +kernel
theorem dL_act_405 : decode cL_act 405 = .ok (.iconst 0, 1) := by decide +kernel
theorem dL_act_406 : decode cL_act 406 = .ok (.invokestatic 103, 3) := by decide +kernel
theorem dL_act_409 : decode cL_act 409 = .ok (.lreturn, 1) := by decide +kernel
theorem dL_act_410 : decode cL_act 410 = .ok (.iload_n 1, 1) := by decide +kernel
theorem dL_act_411 : decode cL_act 411 = .ok (.bipush 16, 2) := by decide +kernel
theorem dL_act_413 : decode cL_act 413 = .ok (.ishr, 1) := by decide +kernel
theorem dL_act_414 : decode cL_act 414 = .ok (.iconst 3, 1) := by decide +kernel
theorem dL_act_415 : decode cL_act 415 = .ok (.invokestatic 92, 3) := by decide +kernel
theorem dL_act_418 : decode cL_act 418 = .ok (.ifCond .ne 11, 3) := by decide +kernel
theorem dL_act_421 : decode cL_act 421 = .ok (.aload_n 0, 1) := by decide +kernel
theorem dL_act_422 : decode cL_act 422 = .ok (.iload_n 3, 1) := by decide +kernel
theorem dL_act_423 : decode cL_act 423 = .ok (.invokestatic 106, 3) := by decide +kernel
theorem dL_act_426 : decode cL_act 426 = .ok (.goto 15, 3) := by decide +kernel
theorem dL_act_429 : decode cL_act 429 = .ok (.aload_n 0, 1) := by decide +kernel
theorem dL_act_430 : decode cL_act 430 = .ok (.invokevirtual 109, 3) := by decide +kernel
theorem dL_act_433 : decode cL_act 433 = .ok (.ifCond .eq 7, 3) := by decide +kernel
theorem dL_act_436 : decode cL_act 436 = .ok (.lconst 1, 1) := by decide +kernel
theorem dL_act_437 : decode cL_act 437 = .ok (.goto 4, 3) := by decide +kernel
theorem dL_act_440 : decode cL_act 440 = .ok (.lconst 0, 1) := by decide +kernel
theorem dL_act_441 : decode cL_act 441 = .ok (.lreturn, 1) := by decide +kernel
theorem dL_act_442 : decode cL_act 442 = .ok (.iload_n 1, 1) := by decide +kernel
theorem dL_act_443 : decode cL_act 443 = .ok (.bipush 16, 2) := by decide +kernel
theorem dL_act_445 : decode cL_act 445 = .ok (.ishr, 1) := by decide +kernel
theorem dL_act_446 : decode cL_act 446 = .ok (.iconst 2, 1) := by decide +kernel
theorem dL_act_447 : decode cL_act 447 = .ok (.invokestatic 92, 3) := by decide +kernel
theorem dL_act_450 : decode cL_act 450 = .ok (.ifCond .ne 11, 3) := by decide +kernel
theorem dL_act_453 : decode cL_act 453 = .ok (.aload_n 0, 1) := by decide +kernel
theorem dL_act_454 : decode cL_act 454 = .ok (.iload_n 3, 1) := by decide +kernel
theorem dL_act_455 : decode cL_act 455 = .ok (.invokestatic 113, 3) := by decide +kernel
theorem dL_act_458 : decode cL_act 458 = .ok (.goto 25, 3) := by decide +kernel
theorem dL_act_461 : decode cL_act 461 = .ok (.aload_n 0, 1) := by decide +kernel
theorem dL_act_462 : decode cL_act 462 = .ok (.iload_n 2, 1) := by decide +kernel
theorem dL_act_463 : decode cL_act 463 = .ok (.ifCond .eq 8, 3) := by decide +kernel
theorem dL_act_466 : decode cL_act 466 = .ok (.iload 7, 2) := by decide +kernel
theorem dL_act_468 : decode cL_act 468 = .ok (.goto 12, 3) := by decide +kernel
theorem dL_act_471 : decode cL_act 471 = .ok (.iload_n 1, 1) := by decide +kernel
theorem dL_act_472 : decode cL_act 472 = .ok (.bipush 9, 2) := by decide +kernel
theorem dL_act_474 : decode cL_act 474 = .ok (.ishr, 1) := by decide +kernel
theorem dL_act_475 : decode cL_act 475 = .ok (.bipush 20, 2) := by decide +kernel
theorem dL_act_477 : decode cL_act 477 = .ok (.invokestatic 92, 3) := by decide +kernel
theorem dL_act_480 : decode cL_act 480 = .ok (.invokestatic 115, 3) := by decide +kernel
theorem dL_act_483 : decode cL_act 483 = .ok (.lreturn, 1) := by decide +kernel
theorem dL_act_484 : decode cL_act 484 = .ok (.aload_n 0, 1) := by decide +kernel
theorem dL_act_485 : decode cL_act 485 = .ok (.iload_n 3, 1) := by decide +kernel
theorem dL_act_486 : decode cL_act 486 = .ok (.iload 4, 2) := by decide +kernel
theorem dL_act_488 : decode cL_act 488 = .ok (.iload 7, 2) := by decide +kernel
theorem dL_act_490 : decode cL_act 490 = .ok (.iload_n 2, 1) := by decide +kernel
theorem dL_act_491 : decode cL_act 491 = .ok (.ifCond .eq 8, 3) := by decide +kernel
theorem dL_act_494 : decode cL_act 494 = .ok (.iload 6, 2) := by decide +kernel
theorem dL_act_496 : decode cL_act 496 = .ok (.goto 12, 3) := by decide +kernel
theorem dL_act_499 : decode cL_act 499 = .ok (.iload_n 1, 1) := by decide +kernel
theorem dL_act_500 : decode cL_act 500 = .ok (.bipush 14, 2) := by decide +kernel
theorem dL_act_502 : decode cL_act 502 = .ok (.ishr, 1) := by decide +kernel
theorem dL_act_503 : decode cL_act 503 = .ok (.bipush 20, 2) := by decide +kernel
theorem dL_act_505 : decode cL_act 505 = .ok (.invokestatic 92, 3) := by decide +kernel
theorem dL_act_508 : decode cL_act 508 = .ok (.iload_n 2, 1) := by decide +kernel
theorem dL_act_509 : decode cL_act 509 = .ok (.ifCond .eq 9, 3) := by decide +kernel
theorem dL_act_512 : decode cL_act 512 = .ok (.iload_n 1, 1) := by decide +kernel
theorem dL_act_513 : decode cL_act 513 = .ok (.iconst 3, 1) := by decide +kernel
theorem dL_act_514 : decode cL_act 514 = .ok (.ishr, 1) := by decide +kernel
theorem dL_act_515 : decode cL_act 515 = .ok (.goto 10, 3) := by decide +kernel
theorem dL_act_518 : decode cL_act 518 = .ok (.iload_n 1, 1) := by decide +kernel
theorem dL_act_519 : decode cL_act 519 = .ok (.iconst 3, 1) := by decide +kernel
theorem dL_act_520 : decode cL_act 520 = .ok (.ishr, 1) := by decide +kernel
theorem dL_act_521 : decode cL_act 521 = .ok (.iconst 2, 1) := by decide +kernel
theorem dL_act_522 : decode cL_act 522 = .ok (.invokestatic 92, 3) := by decide +kernel
theorem dL_act_525 : decode cL_act 525 = .ok (.invokestatic 117, 3) := by decide +kernel
theorem dL_act_528 : decode cL_act 528 = .ok (.lreturn, 1) := by decide +kernel
theorem dL_act_529 : decode cL_act 529 = .ok (.aload_n 0, 1) := by decide +kernel
theorem dL_act_530 : decode cL_act 530 = .ok (.iload 5, 2) := by decide +kernel
theorem dL_act_532 : decode cL_act 532 = .ok (.iload_n 2, 1) := by decide +kernel
theorem dL_act_533 : decode cL_act 533 = .ok (.ifCond .eq 8, 3) := by decide +kernel
theorem dL_act_536 : decode cL_act 536 = .ok (.iload 7, 2) := by decide +kernel
theorem dL_act_538 : decode cL_act 538 = .ok (.goto 11, 3) := by decide +kernel
theorem dL_act_541 : decode cL_act 541 = .ok (.iload_n 1, 1) := by decide +kernel
theorem dL_act_542 : decode cL_act 542 = .ok (.bipush 9, 2) := by decide +kernel
theorem dL_act_544 : decode cL_act 544 = .ok (.ishr, 1) := by decide +kernel
theorem dL_act_545 : decode cL_act 545 = .ok (.iconst 2, 1) := by decide +kernel
theorem dL_act_546 : decode cL_act 546 = .ok (.invokestatic 92, 3) := by decide +kernel
theorem dL_act_549 : decode cL_act 549 = .ok (.invokestatic 120, 3) := by decide +kernel
theorem dL_act_552 : decode cL_act 552 = .ok (.lreturn, 1) := by decide +kernel
theorem dL_act_553 : decode cL_act 553 = .ok (.aload_n 0, 1) := by decide +kernel
theorem dL_act_554 : decode cL_act 554 = .ok (.iload_n 2, 1) := by decide +kernel
theorem dL_act_555 : decode cL_act 555 = .ok (.ifCond .eq 8, 3) := by decide +kernel
theorem dL_act_558 : decode cL_act 558 = .ok (.iload 7, 2) := by decide +kernel
theorem dL_act_560 : decode cL_act 560 = .ok (.goto 30, 3) := by decide +kernel
theorem dL_act_563 : decode cL_act 563 = .ok (.iconst 1, 1) := by decide +kernel
theorem dL_act_564 : decode cL_act 564 = .ok (.iload_n 1, 1) := by decide +kernel
theorem dL_act_565 : decode cL_act 565 = .ok (.bipush 9, 2) := by decide +kernel
theorem dL_act_567 : decode cL_act 567 = .ok (.ishr, 1) := by decide +kernel
theorem dL_act_568 : decode cL_act 568 = .ok (.iload_n 1, 1) := by decide +kernel
theorem dL_act_569 : decode cL_act 569 = .ok (.bipush 13, 2) := by decide +kernel
theorem dL_act_571 : decode cL_act 571 = .ok (.ishr, 1) := by decide +kernel
theorem dL_act_572 : decode cL_act 572 = .ok (.iconst 5, 1) := by decide +kernel
theorem dL_act_573 : decode cL_act 573 = .ok (.invokestatic 92, 3) := by decide +kernel
theorem dL_act_576 : decode cL_act 576 = .ok (.ifCond .ne 9, 3) := by decide +kernel
theorem dL_act_579 : decode cL_act 579 = .ok (.sipush 200, 3) := by decide +kernel
theorem dL_act_582 : decode cL_act 582 = .ok (.goto 4, 3) := by decide +kernel
theorem dL_act_585 : decode cL_act 585 = .ok (.iconst 3, 1) := by decide +kernel
theorem dL_act_586 : decode cL_act 586 = .ok (.invokestatic 92, 3) := by decide +kernel
theorem dL_act_589 : decode cL_act 589 = .ok (.iadd, 1) := by decide +kernel
theorem dL_act_590 : decode cL_act 590 = .ok (.invokestatic 122, 3) := by decide +kernel
theorem dL_act_593 : decode cL_act 593 = .ok (.lreturn, 1) := by decide +kernel
theorem dL_act_594 : decode cL_act 594 = .ok (.aload_n 0, 1) := by decide +kernel
theorem dL_act_595 : decode cL_act 595 = .ok (.iload_n 3, 1) := by decide +kernel
theorem dL_act_596 : decode cL_act 596 = .ok (.iload 4, 2) := by decide +kernel
theorem dL_act_598 : decode cL_act 598 = .ok (.iload 7, 2) := by decide +kernel
theorem dL_act_600 : decode cL_act 600 = .ok (.invokestatic 124, 3) := by decide +kernel
theorem dL_act_603 : decode cL_act 603 = .ok (.lreturn, 1) := by decide +kernel
theorem dL_act_604 : decode cL_act 604 = .ok (.aload_n 0, 1) := by decide +kernel
theorem dL_act_605 : decode cL_act 605 = .ok (.iload_n 3, 1) := by decide +kernel
theorem dL_act_606 : decode cL_act 606 = .ok (.iload 4, 2) := by decide +kernel
theorem dL_act_608 : decode cL_act 608 = .ok (.iload 7, 2) := by decide +kernel
theorem dL_act_610 : decode cL_act 610 = .ok (.invokestatic 126, 3) := by decide +kernel
theorem dL_act_613 : decode cL_act 613 = .ok (.lreturn, 1) := by decide +kernel
theorem dL_act_614 : decode cL_act 614 = .ok (.aload_n 0, 1) := by decide +kernel
theorem dL_act_615 : decode cL_act 615 = .ok (.iload_n 3, 1) := by decide +kernel
theorem dL_act_616 : decode cL_act 616 = .ok (.iload 4, 2) := by decide +kernel
theorem dL_act_618 : decode cL_act 618 = .ok (.iload 7, 2) := by decide +kernel
theorem dL_act_620 : decode cL_act 620 = .ok (.iload_n 2, 1) := by decide +kernel
theorem dL_act_621 : decode cL_act 621 = .ok (.ifCond .eq 9, 3) := by decide +kernel
theorem dL_act_624 : decode cL_act 624 = .ok (.iload_n 1, 1) := by decide +kernel
theorem dL_act_625 : decode cL_act 625 = .ok (.iconst 3, 1) := by decide +kernel
theorem dL_act_626 : decode cL_act 626 = .ok (.ishr, 1) := by decide +kernel
theorem dL_act_627 : decode cL_act 627 = .ok (.goto 13, 3) := by decide +kernel
theorem dL_act_630 : decode cL_act 630 = .ok (.iconst 1, 1) := by decide +kernel
theorem dL_act_631 : decode cL_act 631 = .ok (.iload_n 1, 1) := by decide +kernel
theorem dL_act_632 : decode cL_act 632 = .ok (.iconst 3, 1) := by decide +kernel
theorem dL_act_633 : decode cL_act 633 = .ok (.ishr, 1) := by decide +kernel
theorem dL_act_634 : decode cL_act 634 = .ok (.bipush 9, 2) := by decide +kernel
theorem dL_act_636 : decode cL_act 636 = .ok (.invokestatic 92, 3) := by decide +kernel
theorem dL_act_639 : decode cL_act 639 = .ok (.iadd, 1) := by decide +kernel
theorem dL_act_640 : decode cL_act 640 = .ok (.invokestatic 128, 3) := by decide +kernel
theorem dL_act_643 : decode cL_act 643 = .ok (.lreturn, 1) := by decide +kernel
theorem dL_act_644 : decode cL_act 644 = .ok (.aload_n 0, 1) := by decide +kernel
theorem dL_act_645 : decode cL_act 645 = .ok (.iload_n 2, 1) := by decide +kernel
theorem dL_act_646 : decode cL_act 646 = .ok (.ifCond .eq 8, 3) := by decide +kernel
theorem dL_act_649 : decode cL_act 649 = .ok (.iload 5, 2) := by decide +kernel
theorem dL_act_651 : decode cL_act 651 = .ok (.goto 11, 3) := by decide +kernel
theorem dL_act_654 : decode cL_act 654 = .ok (.iload_n 1, 1) := by decide +kernel
theorem dL_act_655 : decode cL_act 655 = .ok (.bipush 11, 2) := by decide +kernel
theorem dL_act_657 : decode cL_act 657 = .ok (.ishr, 1) := by decide +kernel
theorem dL_act_658 : decode cL_act 658 = .ok (.iconst 5, 1) := by decide +kernel
theorem dL_act_659 : decode cL_act 659 = .ok (.invokestatic 92, 3) := by decide +kernel
theorem dL_act_662 : decode cL_act 662 = .ok (.invokestatic 131, 3) := by decide +kernel
theorem dL_act_665 : decode cL_act 665 = .ok (.lreturn, 1) := by decide +kernel
theorem dL_act_666 : decode cL_act 666 = .ok (.aload_n 0, 1) := by decide +kernel
theorem dL_act_667 : decode cL_act 667 = .ok (.invokevirtual 133, 3) := by decide +kernel
theorem dL_act_670 : decode cL_act 670 = .ok (.lreturn, 1) := by decide +kernel
theorem dL_act_671 : decode cL_act 671 = .ok (.aload_n 0, 1) := by decide +kernel
theorem dL_act_672 : decode cL_act 672 = .ok (.iload 6, 2) := by decide +kernel
theorem dL_act_674 : decode cL_act 674 = .ok (.iload 7, 2) := by decide +kernel
theorem dL_act_676 : decode cL_act 676 = .ok (.invokestatic 137, 3) := by decide +kernel
theorem dL_act_679 : decode cL_act 679 = .ok (.lreturn, 1) := by decide +kernel
theorem dL_act_680 : decode cL_act 680 = .ok (.aload_n 0, 1) := by decide +kernel
theorem dL_act_681 : decode cL_act 681 = .ok (.iload_n 3, 1) := by decide +kernel
theorem dL_act_682 : decode cL_act 682 = .ok (.iload 4, 2) := by decide +kernel
theorem dL_act_684 : decode cL_act 684 = .ok (.iload 7, 2) := by decide +kernel
theorem dL_act_686 : decode cL_act 686 = .ok (.iload_n 2, 1) := by decide +kernel
theorem dL_act_687 : decode cL_act 687 = .ok (.ifCond .eq 8, 3) := by decide +kernel
theorem dL_act_690 : decode cL_act 690 = .ok (.iload 6, 2) := by decide +kernel
theorem dL_act_692 : decode cL_act 692 = .ok (.goto 11, 3) := by decide +kernel
theorem dL_act_695 : decode cL_act 695 = .ok (.iload_n 1, 1) := by decide +kernel
theorem dL_act_696 : decode cL_act 696 = .ok (.bipush 14, 2) := by decide +kernel
theorem dL_act_698 : decode cL_act 698 = .ok (.ishr, 1) := by decide +kernel
theorem dL_act_699 : decode cL_act 699 = .ok (.iconst 4, 1) := by decide +kernel
theorem dL_act_700 : decode cL_act 700 = .ok (.invokestatic 92, 3) := by decide +kernel
theorem dL_act_703 : decode cL_act 703 = .ok (.invokestatic 140, 3) := by decide +kernel
theorem dL_act_706 : decode cL_act 706 = .ok (.lreturn, 1) := by decide +kernel
theorem dL_act_707 : decode cL_act 707 = .ok (.aload_n 0, 1) := by decide +kernel
theorem dL_act_708 : decode cL_act 708 = .ok (.iload 5, 2) := by decide +kernel
theorem dL_act_710 : decode cL_act 710 = .ok (.iload_n 2, 1) := by decide +kernel
theorem dL_act_711 : decode cL_act 711 = .ok (.ifCond .eq 8, 3) := by decide +kernel
theorem dL_act_714 : decode cL_act 714 = .ok (.iload 6, 2) := by decide +kernel
theorem dL_act_716 : decode cL_act 716 = .ok (.goto 11, 3) := by decide +kernel
theorem dL_act_719 : decode cL_act 719 = .ok (.iload_n 1, 1) := by decide +kernel
theorem dL_act_720 : decode cL_act 720 = .ok (.bipush 14, 2) := by decide +kernel
theorem dL_act_722 : decode cL_act 722 = .ok (.ishr, 1) := by decide +kernel
theorem dL_act_723 : decode cL_act 723 = .ok (.iconst 4, 1) := by decide +kernel
theorem dL_act_724 : decode cL_act 724 = .ok (.invokestatic 92, 3) := by decide +kernel
theorem dL_act_727 : decode cL_act 727 = .ok (.invokestatic 142, 3) := by decide +kernel
theorem dL_act_730 : decode cL_act 730 = .ok (.lreturn, 1) := by decide +kernel
theorem dL_act_731 : decode cL_act 731 = .ok (.aload_n 0, 1) := by decide +kernel
theorem dL_act_732 : decode cL_act 732 = .ok (.iload 5, 2) := by decide +kernel
theorem dL_act_734 : decode cL_act 734 = .ok (.iload_n 2, 1) := by decide +kernel
theorem dL_act_735 : decode cL_act 735 = .ok (.ifCond .eq 8, 3) := by decide +kernel
theorem dL_act_738 : decode cL_act 738 = .ok (.iload 7, 2) := by decide +kernel
theorem dL_act_740 : decode cL_act 740 = .ok (.goto 12, 3) := by decide +kernel
theorem dL_act_743 : decode cL_act 743 = .ok (.iload_n 1, 1) := by decide +kernel
theorem dL_act_744 : decode cL_act 744 = .ok (.bipush 9, 2) := by decide +kernel
theorem dL_act_746 : decode cL_act 746 = .ok (.ishr, 1) := by decide +kernel
theorem dL_act_747 : decode cL_act 747 = .ok (.bipush 6, 2) := by decide +kernel
theorem dL_act_749 : decode cL_act 749 = .ok (.invokestatic 92, 3) := by decide +kernel
theorem dL_act_752 : decode cL_act 752 = .ok (.invokestatic 144, 3) := by decide +kernel
theorem dL_act_755 : decode cL_act 755 = .ok (.lreturn, 1) := by decide +kernel
theorem dL_act_756 : decode cL_act 756 = .ok (.aload_n 0, 1) := by decide +kernel
theorem dL_act_757 : decode cL_act 757 = .ok (.iload_n 2, 1) := by decide +kernel
theorem dL_act_758 : decode cL_act 758 = .ok (.ifCond .eq 8, 3) := by decide +kernel
theorem dL_act_761 : decode cL_act 761 = .ok (.iload 7, 2) := by decide +kernel
theorem dL_act_763 : decode cL_act 763 = .ok (.goto 12, 3) := by decide +kernel
theorem dL_act_766 : decode cL_act 766 = .ok (.iload_n 1, 1) := by decide +kernel
theorem dL_act_767 : decode cL_act 767 = .ok (.bipush 9, 2) := by decide +kernel
theorem dL_act_769 : decode cL_act 769 = .ok (.ishr, 1) := by decide +kernel
theorem dL_act_770 : decode cL_act 770 = .ok (.bipush 8, 2) := by decide +kernel
theorem dL_act_772 : decode cL_act 772 = .ok (.invokestatic 92, 3) := by decide +kernel
theorem dL_act_775 : decode cL_act 775 = .ok (.invokestatic 146, 3) := by decide +kernel
theorem dL_act_778 : decode cL_act 778 = .ok (.lreturn, 1) := by decide +kernel
theorem dL_act_779 : decode cL_act 779 = .ok (.aload_n 0, 1) := by decide +kernel
theorem dL_act_780 : decode cL_act 780 = .ok (.iload_n 3, 1) := by decide +kernel
theorem dL_act_781 : decode cL_act 781 = .ok (.iload 4, 2) := by decide +kernel
theorem dL_act_783 : decode cL_act 783 = .ok (.iload_n 1, 1) := by decide +kernel
theorem dL_act_784 : decode cL_act 784 = .ok (.bipush 20, 2) := by decide +kernel
theorem dL_act_786 : decode cL_act 786 = .ok (.ishr, 1) := by decide +kernel
theorem dL_act_787 : decode cL_act 787 = .ok (.iconst 1, 1) := by decide +kernel
theorem dL_act_788 : decode cL_act 788 = .ok (.iand, 1) := by decide +kernel
theorem dL_act_789 : decode cL_act 789 = .ok (.iconst 1, 1) := by decide +kernel
theorem dL_act_790 : decode cL_act 790 = .ok (.if_icmp .ne 7, 3) := by decide +kernel
theorem dL_act_793 : decode cL_act 793 = .ok (.iconst 1, 1) := by decide +kernel
theorem dL_act_794 : decode cL_act 794 = .ok (.goto 4, 3) := by decide +kernel
theorem dL_act_797 : decode cL_act 797 = .ok (.iconst 0, 1) := by decide +kernel
theorem dL_act_798 : decode cL_act 798 = .ok (.invokestatic 148, 3) := by decide +kernel
theorem dL_act_801 : decode cL_act 801 = .ok (.lreturn, 1) := by decide +kernel
theorem dL_areAlike_0 : decode cL_areAlike 0 = .ok (.aload_n 0, 1) := by decide +kernel
theorem dL_areAlike_1 : decode cL_areAlike 1 = .ok (.invokevirtual 151, 3) := by decide +kernel
theorem dL_areAlike_4 : decode cL_areAlike 4 = .ok (.aload_n 1, 1) := by decide +kernel
theorem dL_areAlike_5 : decode cL_areAlike 5 = .ok (.invokevirtual 151, 3) := by decide +kernel
theorem dL_areAlike_8 : decode cL_areAlike 8 = .ok (.if_icmp .ne 7, 3) := by decide +kernel
theorem dL_areAlike_11 : decode cL_areAlike 11 = .ok (.iconst 1, 1) := by decide +kernel
theorem dL_areAlike_12 : decode cL_areAlike 12 = .ok (.goto 4, 3) := by decide +kernel
theorem dL_areAlike_15 : decode cL_areAlike 15 = .ok (.iconst 0, 1) := by decide +kernel
theorem dL_areAlike_16 : decode cL_areAlike 16 = .ok (.istore_n 3, 1) := by decide +kernel
theorem dL_areAlike_17 : decode cL_areAlike 17 = .ok (.iconst 0, 1) := by decide +kernel
theorem dL_areAlike_18 : decode cL_areAlike 18 = .ok (.istore 4, 2) := by decide +kernel
theorem dL_areAlike_20 : decode cL_areAlike 20 = .ok (.iload 4, 2) := by decide +kernel
theorem dL_areAlike_22 : decode cL_areAlike 22 = .ok (.iconst 5, 1) := by decide +kernel
theorem dL_areAlike_23 : decode cL_areAlike 23 = .ok (.if_icmp .ge 179, 3) := by decide +kernel
theorem dL_areAlike_26 : decode cL_areAlike 26 = .ok (.iload_n 3, 1) := by decide +kernel
theorem dL_areAlike_27 : decode cL_areAlike 27 = .ok (.ifCond .eq 175, 3) := by decide +kernel
theorem dL_areAlike_30 : decode cL_areAlike 30 = .ok (.aload_n 0, 1) := by decide +kernel
theorem dL_areAlike_31 : decode cL_areAlike 31 = .ok (.iload 4, 2) := by decide +kernel
theorem dL_areAlike_33 : decode cL_areAlike 33 = .ok (.iload_n 2, 1) := by decide +kernel
theorem dL_areAlike_34 : decode cL_areAlike 34 = .ok (.iconst 4, 1) := by decide +kernel
theorem dL_areAlike_35 : decode cL_areAlike 35 = .ok (.invokestatic 92, 3) := by decide +kernel
theorem dL_areAlike_38 : decode cL_areAlike 38 = .ok (.invokestatic 155, 3) := by decide +kernel
theorem dL_areAlike_41 : decode cL_areAlike 41 = .ok (.aload_n 1, 1) := by decide +kernel
theorem dL_areAlike_42 : decode cL_areAlike 42 = .ok (.iload 4, 2) := by decide +kernel
theorem dL_areAlike_44 : decode cL_areAlike 44 = .ok (.iload_n 2, 1) := by decide +kernel
theorem dL_areAlike_45 : decode cL_areAlike 45 = .ok (.iconst 4, 1) := by decide +kernel
theorem dL_areAlike_46 : decode cL_areAlike 46 = .ok (.invokestatic 92, 3) := by decide +kernel
theorem dL_areAlike_49 : decode cL_areAlike 49 = .ok (.invokestatic 155, 3) := by decide +kernel
theorem dL_areAlike_52 : decode cL_areAlike 52 = .ok (.lcmp, 1) := by decide +kernel
theorem dL_areAlike_53 : decode cL_areAlike 53 = .ok (.ifCond .ne 141, 3) := by decide +kernel
theorem dL_areAlike_56 : decode cL_areAlike 56 = .ok (.aload_n 0, 1) := by decide +kernel
theorem dL_areAlike_57 : decode cL_areAlike 57 = .ok (.iload 4, 2) := by decide +kernel
theorem dL_areAlike_59 : decode cL_areAlike 59 = .ok (.iload_n 2, 1) := by decide +kernel
theorem dL_areAlike_60 : decode cL_areAlike 60 = .ok (.iconst 2, 1) := by decide +kernel
theorem dL_areAlike_61 : decode cL_areAlike 61 = .ok (.ishr, 1) := by decide +kernel
theorem dL_areAlike_62 : decode cL_areAlike 62 = .ok (.iconst 5, 1) := by decide +kernel
theorem dL_areAlike_63 : decode cL_areAlike 63 = .ok (.invokestatic 92, 3) := by decide +kernel
theorem dL_areAlike_66 : decode cL_areAlike 66 = .ok (.iload_n 2, 1) := by decide +kernel
theorem dL_areAlike_67 : decode cL_areAlike 67 = .ok (.iconst 1, 1) := by decide +kernel
theorem dL_areAlike_68 : decode cL_areAlike 68 = .ok (.iand, 1) := by decide +kernel
theorem dL_areAlike_69 : decode cL_areAlike 69 = .ok (.iconst 1, 1) := by decide +kernel
theorem dL_areAlike_70 : decode cL_areAlike 70 = .ok (.if_icmp .ne 7, 3) := by decide +kernel
theorem dL_areAlike_73 : decode cL_areAlike 73 = .ok (.iconst 1, 1) := by decide +kernel
theorem dL_areAlike_74 : decode cL_areAlike 74 = .ok (.goto 4, 3) := by decide +kernel
theorem dL_areAlike_77 : decode cL_areAlike 77 = .ok (.iconst 0, 1) := by decide +kernel
theorem dL_areAlike_78 : decode cL_areAlike 78 = .ok (.invokestatic 148, 3) := by decide +kernel
theorem dL_areAlike_81 : decode cL_areAlike 81 = .ok (.aload_n 1, 1) := by decide +kernel
theorem dL_areAlike_82 : decode cL_areAlike 82 = .ok (.iload 4, 2) := by decide +kernel
theorem dL_areAlike_84 : decode cL_areAlike 84 = .ok (.iload_n 2, 1) := by decide +kernel
theorem dL_areAlike_85 : decode cL_areAlike 85 = .ok (.iconst 2, 1) := by decide +kernel
theorem dL_areAlike_86 : decode cL_areAlike 86 = .ok (.ishr, 1) := by decide +kernel
theorem dL_areAlike_87 : decode cL_areAlike 87 = .ok (.iconst 5, 1) := by decide +kernel
theorem dL_areAlike_88 : decode cL_areAlike 88 = .ok (.invokestatic 92, 3) := by decide +kernel
theorem dL_areAlike_91 : decode cL_areAlike 91 = .ok (.iload_n 2, 1) := by decide +kernel
theorem dL_areAlike_92 : decode cL_areAlike 92 = .ok (.iconst 1, 1) := by decide +kernel
theorem dL_areAlike_93 : decode cL_areAlike 93 = .ok (.iand, 1) := by decide +kernel
theorem dL_areAlike_94 : decode cL_areAlike 94 = .ok (.iconst 1, 1) := by decide +kernel
theorem dL_areAlike_95 : decode cL_areAlike 95 = .ok (.if_icmp .ne 7, 3) := by decide +kernel
theorem dL_areAlike_98 : decode cL_areAlike 98 = .ok (.iconst 1, 1) := by decide +kernel
theorem dL_areAlike_99 : decode cL_areAlike 99 = .ok (.goto 4, 3) := by decide +kernel
theorem dL_areAlike_102 : decode cL_areAlike 102 = .ok (.iconst 0, 1) := by decide +kernel
theorem dL_areAlike_103 : decode cL_areAlike 103 = .ok (.invokestatic 148, 3) := by decide +kernel
theorem dL_areAlike_106 : decode cL_areAlike 106 = .ok (.lcmp, 1) := by decide +kernel
theorem dL_areAlike_107 : decode cL_areAlike 107 = .ok (.ifCond .ne 87, 3) := by decide +kernel
theorem dL_areAlike_110 : decode cL_areAlike 110 = .ok (.aload_n 0, 1) := by decide +kernel
theorem dL_areAlike_111 : decode cL_areAlike 111 = .ok (.iload 4, 2) := by decide +kernel
theorem dL_areAlike_113 : decode cL_areAlike 113 = .ok (.iload_n 2, 1) := by decide +kernel
theorem dL_areAlike_114 : decode cL_areAlike 114 = .ok (.iconst 4, 1) := by decide +kernel
theorem dL_areAlike_115 : decode cL_areAlike 115 = .ok (.ishr, 1) := by decide +kernel
theorem dL_areAlike_116 : decode cL_areAlike 116 = .ok (.bipush 6, 2) := by decide +kernel
theorem dL_areAlike_118 : decode cL_areAlike 118 = .ok (.invokestatic 92, 3) := by decide +kernel
theorem dL_areAlike_121 : decode cL_areAlike 121 = .ok (.invokestatic 144, 3) := by decide +kernel
theorem dL_areAlike_124 : decode cL_areAlike 124 = .ok (.aload_n 1, 1) := by decide +kernel
theorem dL_areAlike_125 : decode cL_areAlike 125 = .ok (.iload 4, 2) := by decide +kernel
theorem dL_areAlike_127 : decode cL_areAlike 127 = .ok (.iload_n 2, 1) := by decide +kernel
theorem dL_areAlike_128 : decode cL_areAlike 128 = .ok (.iconst 4, 1) := by decide +kernel
theorem dL_areAlike_129 : decode cL_areAlike 129 = .ok (.ishr, 1) := by decide +kernel
theorem dL_areAlike_130 : decode cL_areAlike 130 = .ok (.bipush 6, 2) := by decide +kernel
theorem dL_areAlike_132 : decode cL_areAlike 132 = .ok (.invokestatic 92, 3) := by decide +kernel
theorem dL_areAlike_135 : decode cL_areAlike 135 = .ok (.invokestatic 144, 3) := by decide +kernel
theorem dL_areAlike_138 : decode cL_areAlike 138 = .ok (.lcmp, 1) := by decide +kernel
theorem dL_areAlike_139 : decode cL_areAlike 139 = .ok (.ifCond .ne 55, 3) := by decide +kernel
theorem dL_areAlike_142 : decode cL_areAlike 142 = .ok (.aload_n 0, 1) := by decide +kernel
theorem dL_areAlike_143 : decode cL_areAlike 143 = .ok (.iload 4, 2) := by decide +kernel
theorem dL_areAlike_145 : decode cL_areAlike 145 = .ok (.iload_n 2, 1) := by decide +kernel
theorem dL_areAlike_146 : decode cL_areAlike 146 = .ok (.bipush 6, 2) := by decide +kernel
theorem dL_areAlike_148 : decode cL_areAlike 148 = .ok (.ishr, 1) := by decide +kernel
theorem dL_areAlike_149 : decode cL_areAlike 149 = .ok (.iconst 3, 1) := by decide +kernel
theorem dL_areAlike_150 : decode cL_areAlike 150 = .ok (.invokestatic 92, 3) := by decide +kernel
theorem dL_areAlike_153 : decode cL_areAlike 153 = .ok (.invokestatic 142, 3) := by decide +kernel
theorem dL_areAlike_156 : decode cL_areAlike 156 = .ok (.aload_n 1, 1) := by decide +kernel
theorem dL_areAlike_157 : decode cL_areAlike 157 = .ok (.iload 4, 2) := by decide +kernel
theorem dL_areAlike_159 : decode cL_areAlike 159 = .ok (.iload_n 2, 1) := by decide +kernel
theorem dL_areAlike_160 : decode cL_areAlike 160 = .ok (.bipush 6, 2) := by decide +kernel
theorem dL_areAlike_162 : decode cL_areAlike 162 = .ok (.ishr, 1) := by decide +kernel
theorem dL_areAlike_163 : decode cL_areAlike 163 = .ok (.iconst 3, 1) := by decide +kernel
theorem dL_areAlike_164 : decode cL_areAlike 164 = .ok (.invokestatic 92, 3) := by decide +kernel
theorem dL_areAlike_167 : decode cL_areAlike 167 = .ok (.invokestatic 142, 3) := by decide +kernel
theorem dL_areAlike_170 : decode cL_areAlike 170 = .ok (.lcmp, 1) := by decide +kernel
theorem dL_areAlike_171 : decode cL_areAlike 171 = .ok (.ifCond .ne 23, 3) := by decide +kernel
theorem dL_areAlike_174 : decode cL_areAlike 174 = .ok (.aload_n 0, 1) := by decide +kernel
theorem dL_areAlike_175 : decode cL_areAlike 175 = .ok (.iload 4, 2) := by decide +kernel
theorem dL_areAlike_177 : decode cL_areAlike 177 = .ok (.invokestatic 146, 3) := by decide +kernel
theorem dL_areAlike_180 : decode cL_areAlike 180 = .ok (.aload_n 1, 1) := by decide +kernel
theorem dL_areAlike_181 : decode cL_areAlike 181 = .ok (.iload 4, 2) := by decide +kernel
theorem dL_areAlike_183 : decode cL_areAlike 183 = .ok (.invokestatic 146, 3) := by decide +kernel
theorem dL_areAlike_186 : decode cL_areAlike 186 = .ok (.lcmp, 1) := by decide +kernel
theorem dL_areAlike_187 : decode cL_areAlike 187 = .ok (.ifCond .ne 7, 3) := by decide +kernel
theorem dL_areAlike_190 : decode cL_areAlike 190 = .ok (.iconst 1, 1) := by decide +kernel
theorem dL_areAlike_191 : decode cL_areAlike 191 = .ok (.goto 4, 3) := by decide +kernel
theorem dL_areAlike_194 : decode cL_areAlike 194 = .ok (.iconst 0, 1) := by decide +kernel
theorem dL_areAlike_195 : decode cL_areAlike 195 = .ok (.istore_n 3, 1) := by decide +kernel
theorem dL_areAlike_196 : decode cL_areAlike 196 = .ok (.iinc 4 1, 3) := by decide +kernel
theorem dL_areAlike_199 : decode cL_areAlike 199 = .ok (.goto (-179), 3) := by decide +kernel
theorem dL_areAlike_202 : decode cL_areAlike 202 = .ok (.iload_n 3, 1) := by decide +kernel
theorem dL_areAlike_203 : decode cL_areAlike 203 = .ok (.ireturn, 1) := by decide +kernel
theorem dL_isSo_0 : decode cL_isSo 0 = .ok (.iconst 1, 1) := by decide +kernel
theorem dL_isSo_1 : decode cL_isSo 1 = .ok (.istore_n 3, 1) := by decide +kernel
theorem dL_isSo_2 : decode cL_isSo 2 = .ok (.lconst 0, 1) := by decide +kernel
theorem dL_isSo_3 : decode cL_isSo 3 = .ok (.lstore 4, 2) := by decide +kernel
theorem dL_isSo_5 : decode cL_isSo 5 = .ok (.lconst 0, 1) := by decide +kernel
theorem dL_isSo_6 : decode cL_isSo 6 = .ok (.lstore 6, 2) := by decide +kernel
theorem dL_isSo_8 : decode cL_isSo 8 = .ok (.iconst 0, 1) := by decide +kernel
theorem dL_isSo_9 : decode cL_isSo 9 = .ok (.istore 8, 2) := by decide +kernel
theorem dL_isSo_11 : decode cL_isSo 11 = .ok (.iload 8, 2) := by decide +kernel
theorem dL_isSo_13 : decode cL_isSo 13 = .ok (.bipush 12, 2) := by decide +kernel
theorem dL_isSo_15 : decode cL_isSo 15 = .ok (.if_icmp .ge 175, 3) := by decide +kernel
theorem dL_isSo_18 : decode cL_isSo 18 = .ok (.iload_n 3, 1) := by decide +kernel
theorem dL_isSo_19 : decode cL_isSo 19 = .ok (.ifCond .eq 171, 3) := by decide +kernel
theorem dL_isSo_22 : decode cL_isSo 22 = .ok (.lload 4, 2) := by decide +kernel
theorem dL_isSo_24 : decode cL_isSo 24 = .ok (.aload_n 0, 1) := by decide +kernel
theorem dL_isSo_25 : decode cL_isSo 25 = .ok (.iload 8, 2) := by decide +kernel
theorem dL_isSo_27 : decode cL_isSo 27 = .ok (.iconst 1, 1) := by decide +kernel
theorem dL_isSo_28 : decode cL_isSo 28 = .ok (.invokestatic 155, 3) := by decide +kernel
theorem dL_isSo_31 : decode cL_isSo 31 = .ok (.lconst 0, 1) := by decide +kernel
theorem dL_isSo_32 : decode cL_isSo 32 = .ok (.lcmp, 1) := by decide +kernel
theorem dL_isSo_33 : decode cL_isSo 33 = .ok (.ifCond .ge 7, 3) := by decide +kernel
theorem dL_isSo_36 : decode cL_isSo 36 = .ok (.lconst 0, 1) := by decide +kernel
theorem dL_isSo_37 : decode cL_isSo 37 = .ok (.goto 10, 3) := by decide +kernel
theorem dL_isSo_40 : decode cL_isSo 40 = .ok (.aload_n 0, 1) := by decide +kernel
theorem dL_isSo_41 : decode cL_isSo 41 = .ok (.iload 8, 2) := by decide +kernel
theorem dL_isSo_43 : decode cL_isSo 43 = .ok (.iconst 3, 1) := by decide +kernel
theorem dL_isSo_44 : decode cL_isSo 44 = .ok (.invokevirtual 67, 3) := by decide +kernel
theorem dL_isSo_47 : decode cL_isSo 47 = .ok (.ladd, 1) := by decide +kernel
theorem dL_isSo_48 : decode cL_isSo 48 = .ok (.lstore 4, 2) := by decide +kernel
theorem dL_isSo_50 : decode cL_isSo 50 = .ok (.iconst 0, 1) := by decide +kernel
theorem dL_isSo_51 : decode cL_isSo 51 = .ok (.istore 9, 2) := by decide +kernel
theorem dL_isSo_53 : decode cL_isSo 53 = .ok (.iload 9, 2) := by decide +kernel
theorem dL_isSo_55 : decode cL_isSo 55 = .ok (.bipush 12, 2) := by decide +kernel
theorem dL_isSo_57 : decode cL_isSo 57 = .ok (.if_icmp .ge 127, 3) := by decide +kernel
theorem dL_isSo_60 : decode cL_isSo 60 = .ok (.iload_n 3, 1) := by decide +kernel
theorem dL_isSo_61 : decode cL_isSo 61 = .ok (.ifCond .eq 123, 3) := by decide +kernel
theorem dL_isSo_64 : decode cL_isSo 64 = .ok (.aload_n 0, 1) := by decide +kernel
theorem dL_isSo_65 : decode cL_isSo 65 = .ok (.iload 8, 2) := by decide +kernel
theorem dL_isSo_67 : decode cL_isSo 67 = .ok (.iload 9, 2) := by decide +kernel
theorem dL_isSo_69 : decode cL_isSo 69 = .ok (.iconst 0, 1) := by decide +kernel
theorem dL_isSo_70 : decode cL_isSo 70 = .ok (.invokestatic 148, 3) := by decide +kernel
theorem dL_isSo_73 : decode cL_isSo 73 = .ok (.lstore 10, 2) := by decide +kernel
theorem dL_isSo_75 : decode cL_isSo 75 = .ok (.lload 10, 2) := by decide +kernel
theorem dL_isSo_77 : decode cL_isSo 77 = .ok (.ldc2_w 16, 3) := by decide +kernel
theorem dL_isSo_80 : decode cL_isSo 80 = .ok (.lcmp, 1) := by decide +kernel
theorem dL_isSo_81 : decode cL_isSo 81 = .ok (.ifCond .eq 91, 3) := by decide +kernel
theorem dL_isSo_84 : decode cL_isSo 84 = .ok (.lload 10, 2) := by decide +kernel
theorem dL_isSo_86 : decode cL_isSo 86 = .ok (.aload_n 0, 1) := by decide +kernel
theorem dL_isSo_87 : decode cL_isSo 87 = .ok (.iload 9, 2) := by decide +kernel
theorem dL_isSo_89 : decode cL_isSo 89 = .ok (.iload 8, 2) := by decide +kernel
theorem dL_isSo_91 : decode cL_isSo 91 = .ok (.iconst 0, 1) := by decide +kernel
theorem dL_isSo_92 : decode cL_isSo 92 = .ok (.invokevirtual 71, 3) := by decide +kernel
theorem dL_isSo_95 : decode cL_isSo 95 = .ok (.lneg, 1) := by decide +kernel
theorem dL_isSo_96 : decode cL_isSo 96 = .ok (.lcmp, 1) := by decide +kernel
theorem dL_isSo_97 : decode cL_isSo 97 = .ok (.ifCond .ne 79, 3) := by decide +kernel
theorem dL_isSo_100 : decode cL_isSo 100 = .ok (.iload 8, 2) := by decide +kernel
theorem dL_isSo_102 : decode cL_isSo 102 = .ok (.iload 9, 2) := by decide +kernel
theorem dL_isSo_104 : decode cL_isSo 104 = .ok (.if_icmp .ne 10, 3) := by decide +kernel
theorem dL_isSo_107 : decode cL_isSo 107 = .ok (.lload 10, 2) := by decide +kernel
theorem dL_isSo_109 : decode cL_isSo 109 = .ok (.lconst 0, 1) := by decide +kernel
theorem dL_isSo_110 : decode cL_isSo 110 = .ok (.lcmp, 1) := by decide +kernel
theorem dL_isSo_111 : decode cL_isSo 111 = .ok (.ifCond .ne 65, 3) := by decide +kernel
theorem dL_isSo_114 : decode cL_isSo 114 = .ok (.aload_n 0, 1) := by decide +kernel
theorem dL_isSo_115 : decode cL_isSo 115 = .ok (.iload 8, 2) := by decide +kernel
theorem dL_isSo_117 : decode cL_isSo 117 = .ok (.iload 9, 2) := by decide +kernel
theorem dL_isSo_119 : decode cL_isSo 119 = .ok (.invokevirtual 75, 3) := by decide +kernel
theorem dL_isSo_122 : decode cL_isSo 122 = .ok (.aload_n 0, 1) := by decide +kernel
theorem dL_isSo_123 : decode cL_isSo 123 = .ok (.iload 8, 2) := by decide +kernel
theorem dL_isSo_125 : decode cL_isSo 125 = .ok (.iload 9, 2) := by decide +kernel
theorem dL_isSo_127 : decode cL_isSo 127 = .ok (.iconst 1, 1) := by decide +kernel
theorem dL_isSo_128 : decode cL_isSo 128 = .ok (.invokevirtual 71, 3) := by decide +kernel
theorem dL_isSo_131 : decode cL_isSo 131 = .ok (.aload_n 0, 1) := by decide +kernel
theorem dL_isSo_132 : decode cL_isSo 132 = .ok (.iload 9, 2) := by decide +kernel
theorem dL_isSo_134 : decode cL_isSo 134 = .ok (.iload 8, 2) := by decide +kernel
theorem dL_isSo_136 : decode cL_isSo 136 = .ok (.iconst 1, 1) := by decide +kernel
theorem dL_isSo_137 : decode cL_isSo 137 = .ok (.invokevirtual 71, 3) := by decide +kernel
theorem dL_isSo_140 : decode cL_isSo 140 = .ok (.lneg, 1) := by decide +kernel
theorem dL_isSo_141 : decode cL_isSo 141 = .ok (.lcmp, 1) := by decide +kernel
theorem dL_isSo_142 : decode cL_isSo 142 = .ok (.ifCond .ne 7, 3) := by decide +kernel
theorem dL_isSo_145 : decode cL_isSo 145 = .ok (.iconst 1, 1) := by decide +kernel
theorem dL_isSo_146 : decode cL_isSo 146 = .ok (.goto 4, 3) := by decide +kernel
theorem dL_isSo_149 : decode cL_isSo 149 = .ok (.iconst 0, 1) := by decide +kernel
theorem dL_isSo_150 : decode cL_isSo 150 = .ok (.if_icmp .ne 26, 3) := by decide +kernel
theorem dL_isSo_153 : decode cL_isSo 153 = .ok (.aload_n 0, 1) := by decide +kernel
theorem dL_isSo_154 : decode cL_isSo 154 = .ok (.iload 8, 2) := by decide +kernel
theorem dL_isSo_156 : decode cL_isSo 156 = .ok (.iload 9, 2) := by decide +kernel
theorem dL_isSo_158 : decode cL_isSo 158 = .ok (.invokevirtual 75, 3) := by decide +kernel
theorem dL_isSo_161 : decode cL_isSo 161 = .ok (.aload_n 0, 1) := by decide +kernel
theorem dL_isSo_162 : decode cL_isSo 162 = .ok (.iload 9, 2) := by decide +kernel
theorem dL_isSo_164 : decode cL_isSo 164 = .ok (.iload 8, 2) := by decide +kernel
theorem dL_isSo_166 : decode cL_isSo 166 = .ok (.invokevirtual 75, 3) := by decide +kernel
theorem dL_isSo_169 : decode cL_isSo 169 = .ok (.if_icmp .ne 7, 3) := by decide +kernel
theorem dL_isSo_172 : decode cL_isSo 172 = .ok (.iconst 1, 1) := by decide +kernel
theorem dL_isSo_173 : decode cL_isSo 173 = .ok (.goto 4, 3) := by decide +kernel
theorem dL_isSo_176 : decode cL_isSo 176 = .ok (.iconst 0, 1) := by decide +kernel
theorem dL_isSo_177 : decode cL_isSo 177 = .ok (.istore_n 3, 1) := by decide +kernel
theorem dL_isSo_178 : decode cL_isSo 178 = .ok (.iinc 9 1, 3) := by decide +kernel
theorem dL_isSo_181 : decode cL_isSo 181 = .ok (.goto (-128), 3) := by decide +kernel
theorem dL_isSo_184 : decode cL_isSo 184 = .ok (.iinc 8 1, 3) := by decide +kernel
theorem dL_isSo_187 : decode cL_isSo 187 = .ok (.goto (-176), 3) := by decide +kernel
theorem dL_isSo_190 : decode cL_isSo 190 = .ok (.iconst 0, 1) := by decide +kernel
theorem dL_isSo_191 : decode cL_isSo 191 = .ok (.istore 8, 2) := by decide +kernel
theorem dL_isSo_193 : decode cL_isSo 193 = .ok (.iload 8, 2) := by decide +kernel
theorem dL_isSo_195 : decode cL_isSo 195 = .ok (.bipush 40, 2) := by decide +kernel
theorem dL_isSo_197 : decode cL_isSo 197 = .ok (.if_icmp .ge 135, 3) := by decide +kernel
theorem dL_isSo_200 : decode cL_isSo 200 = .ok (.iload_n 3, 1) := by decide +kernel
theorem dL_isSo_201 : decode cL_isSo 201 = .ok (.ifCond .eq 131, 3) := by decide +kernel
theorem dL_isSo_204 : decode cL_isSo 204 = .ok (.aload_n 0, 1) := by decide +kernel
theorem dL_isSo_205 : decode cL_isSo 205 = .ok (.iload 8, 2) := by decide +kernel
theorem dL_isSo_207 : decode cL_isSo 207 = .ok (.iconst 0, 1) := by decide +kernel
theorem dL_isSo_208 : decode cL_isSo 208 = .ok (.invokestatic 144, 3) := by decide +kernel
theorem dL_isSo_211 : decode cL_isSo 211 = .ok (.lstore 9, 2) := by decide +kernel
theorem dL_isSo_213 : decode cL_isSo 213 = .ok (.lload 9, 2) := by decide +kernel
theorem dL_isSo_215 : decode cL_isSo 215 = .ok (.lconst 0, 1) := by decide +kernel
theorem dL_isSo_216 : decode cL_isSo 216 = .ok (.lcmp, 1) := by decide +kernel
theorem dL_isSo_217 : decode cL_isSo 217 = .ok (.ifCond .lt 109, 3) := by decide +kernel
theorem dL_isSo_220 : decode cL_isSo 220 = .ok (.lload 6, 2) := by decide +kernel
theorem dL_isSo_222 : decode cL_isSo 222 = .ok (.aload_n 0, 1) := by decide +kernel
theorem dL_isSo_223 : decode cL_isSo 223 = .ok (.iload 8, 2) := by decide +kernel
theorem dL_isSo_225 : decode cL_isSo 225 = .ok (.iconst 2, 1) := by decide +kernel
theorem dL_isSo_226 : decode cL_isSo 226 = .ok (.invokevirtual 85, 3) := by decide +kernel
theorem dL_isSo_229 : decode cL_isSo 229 = .ok (.i2l, 1) := by decide +kernel
theorem dL_isSo_230 : decode cL_isSo 230 = .ok (.ladd, 1) := by decide +kernel
theorem dL_isSo_231 : decode cL_isSo 231 = .ok (.lstore 6, 2) := by decide +kernel
theorem dL_isSo_233 : decode cL_isSo 233 = .ok (.aload_n 0, 1) := by decide +kernel
theorem dL_isSo_234 : decode cL_isSo 234 = .ok (.iload 8, 2) := by decide +kernel
theorem dL_isSo_236 : decode cL_isSo 236 = .ok (.iconst 3, 1) := by decide +kernel
theorem dL_isSo_237 : decode cL_isSo 237 = .ok (.invokevirtual 85, 3) := by decide +kernel
theorem dL_isSo_240 : decode cL_isSo 240 = .ok (.istore 11, 2) := by decide +kernel
theorem dL_isSo_242 : decode cL_isSo 242 = .ok (.lload 9, 2) := by decide +kernel
theorem dL_isSo_244 : decode cL_isSo 244 = .ok (.ldc2_w 157, 3) := by decide +kernel
theorem dL_isSo_247 : decode cL_isSo 247 = .ok (.lcmp, 1) := by decide +kernel
theorem dL_isSo_248 : decode cL_isSo 248 = .ok (.ifCond .gt 76, 3) := by decide +kernel
theorem dL_isSo_251 : decode cL_isSo 251 = .ok (.aload_n 0, 1) := by decide +kernel
theorem dL_isSo_252 : decode cL_isSo 252 = .ok (.iload 8, 2) := by decide +kernel
theorem dL_isSo_254 : decode cL_isSo 254 = .ok (.iconst 2, 1) := by decide +kernel
theorem dL_isSo_255 : decode cL_isSo 255 = .ok (.invokevirtual 85, 3) := by decide +kernel
theorem dL_isSo_258 : decode cL_isSo 258 = .ok (.aload_n 0, 1) := by decide +kernel
theorem dL_isSo_259 : decode cL_isSo 259 = .ok (.iload 8, 2) := by decide +kernel
theorem dL_isSo_261 : decode cL_isSo 261 = .ok (.iconst 1, 1) := by decide +kernel
theorem dL_isSo_262 : decode cL_isSo 262 = .ok (.invokevirtual 85, 3) := by decide +kernel
theorem dL_isSo_265 : decode cL_isSo 265 = .ok (.if_icmp .lt 59, 3) := by decide +kernel
theorem dL_isSo_268 : decode cL_isSo 268 = .ok (.aload_n 0, 1) := by decide +kernel
theorem dL_isSo_269 : decode cL_isSo 269 = .ok (.iload 8, 2) := by decide +kernel
theorem dL_isSo_271 : decode cL_isSo 271 = .ok (.iload 11, 2) := by decide +kernel
theorem dL_isSo_273 : decode cL_isSo 273 = .ok (.invokevirtual 82, 3) := by decide +kernel
theorem dL_isSo_276 : decode cL_isSo 276 = .ok (.ifCond .lt 48, 3) := by decide +kernel
theorem dL_isSo_279 : decode cL_isSo 279 = .ok (.lload 9, 2) := by decide +kernel
theorem dL_isSo_281 : decode cL_isSo 281 = .ok (.lconst 1, 1) := by decide +kernel
theorem dL_isSo_282 : decode cL_isSo 282 = .ok (.lcmp, 1) := by decide +kernel
theorem dL_isSo_283 : decode cL_isSo 283 = .ok (.ifCond .ne 17, 3) := by decide +kernel
theorem dL_isSo_286 : decode cL_isSo 286 = .ok (.aload_n 0, 1) := by decide +kernel
theorem dL_isSo_287 : decode cL_isSo 287 = .ok (.iload 8, 2) := by decide +kernel
theorem dL_isSo_289 : decode cL_isSo 289 = .ok (.iload 11, 2) := by decide +kernel
theorem dL_isSo_291 : decode cL_isSo 291 = .ok (.iconst 1, 1) := by decide +kernel
theorem dL_isSo_292 : decode cL_isSo 292 = .ok (.iadd, 1) := by decide +kernel
theorem dL_isSo_293 : decode cL_isSo 293 = .ok (.invokevirtual 82, 3) := by decide +kernel
theorem dL_isSo_296 : decode cL_isSo 296 = .ok (.iconst (-1), 1) := by decide +kernel
theorem dL_isSo_297 : decode cL_isSo 297 = .ok (.if_icmp .ne 27, 3) := by decide +kernel
theorem dL_isSo_300 : decode cL_isSo 300 = .ok (.lload 9, 2) := by decide +kernel
theorem dL_isSo_302 : decode cL_isSo 302 = .ok (.lconst 0, 1) := by decide +kernel
theorem dL_isSo_303 : decode cL_isSo 303 = .ok (.lcmp, 1) := by decide +kernel
theorem dL_isSo_304 : decode cL_isSo 304 = .ok (.ifCond .ne 16, 3) := by decide +kernel
theorem dL_isSo_307 : decode cL_isSo 307 = .ok (.aload_n 0, 1) := by decide +kernel
theorem dL_isSo_308 : decode cL_isSo 308 = .ok (.iload 8, 2) := by decide +kernel
theorem dL_isSo_310 : decode cL_isSo 310 = .ok (.iload 11, 2) := by decide +kernel
theorem dL_isSo_312 : decode cL_isSo 312 = .ok (.iconst 1, 1) := by decide +kernel
theorem dL_isSo_313 : decode cL_isSo 313 = .ok (.iadd, 1) := by decide +kernel
theorem dL_isSo_314 : decode cL_isSo 314 = .ok (.invokevirtual 82, 3) := by decide +kernel
theorem dL_isSo_317 : decode cL_isSo 317 = .ok (.ifCond .lt 7, 3) := by decide +kernel
theorem dL_isSo_320 : decode cL_isSo 320 = .ok (.iconst 1, 1) := by decide +kernel
theorem dL_isSo_321 : decode cL_isSo 321 = .ok (.goto 4, 3) := by decide +kernel
theorem dL_isSo_324 : decode cL_isSo 324 = .ok (.iconst 0, 1) := by decide +kernel
theorem dL_isSo_325 : decode cL_isSo 325 = .ok (.istore_n 3, 1) := by decide +kernel
theorem dL_isSo_326 : decode cL_isSo 326 = .ok (.iinc 8 1, 3) := by decide +kernel
theorem dL_isSo_329 : decode cL_isSo 329 = .ok (.goto (-136), 3) := by decide +kernel
theorem dL_isSo_332 : decode cL_isSo 332 = .ok (.iload_n 3, 1) := by decide +kernel
theorem dL_isSo_333 : decode cL_isSo 333 = .ok (.ifCond .eq 105, 3) := by decide +kernel
theorem dL_isSo_336 : decode cL_isSo 336 = .ok (.lload 6, 2) := by decide +kernel
theorem dL_isSo_338 : decode cL_isSo 338 = .ok (.aload_n 0, 1) := by decide +kernel
theorem dL_isSo_339 : decode cL_isSo 339 = .ok (.iconst 0, 1) := by decide +kernel
theorem dL_isSo_340 : decode cL_isSo 340 = .ok (.invokevirtual 88, 3) := by decide +kernel
theorem dL_isSo_343 : decode cL_isSo 343 = .ok (.lcmp, 1) := by decide +kernel
theorem dL_isSo_344 : decode cL_isSo 344 = .ok (.ifCond .ne 94, 3) := by decide +kernel
theorem dL_isSo_347 : decode cL_isSo 347 = .ok (.aload_n 0, 1) := by decide +kernel
theorem dL_isSo_348 : decode cL_isSo 348 = .ok (.bipush 6, 2) := by decide +kernel
theorem dL_isSo_350 : decode cL_isSo 350 = .ok (.invokevirtual 88, 3) := by decide +kernel
theorem dL_isSo_353 : decode cL_isSo 353 = .ok (.lload_n 1, 1) := by decide +kernel
theorem dL_isSo_354 : decode cL_isSo 354 = .ok (.aload_n 0, 1) := by decide +kernel
theorem dL_isSo_355 : decode cL_isSo 355 = .ok (.iconst 0, 1) := by decide +kernel
theorem dL_isSo_356 : decode cL_isSo 356 = .ok (.invokevirtual 88, 3) := by decide +kernel
theorem dL_isSo_359 : decode cL_isSo 359 = .ok (.ladd, 1) := by decide +kernel
theorem dL_isSo_360 : decode cL_isSo 360 = .ok (.aload_n 0, 1) := by decide +kernel
theorem dL_isSo_361 : decode cL_isSo 361 = .ok (.iconst 1, 1) := by decide +kernel
theorem dL_isSo_362 : decode cL_isSo 362 = .ok (.invokevirtual 88, 3) := by decide +kernel
theorem dL_isSo_365 : decode cL_isSo 365 = .ok (.lsub, 1) := by decide +kernel
theorem dL_isSo_366 : decode cL_isSo 366 = .ok (.aload_n 0, 1) := by decide +kernel
theorem dL_isSo_367 : decode cL_isSo 367 = .ok (.iconst 2, 1) := by decide +kernel
theorem dL_isSo_368 : decode cL_isSo 368 = .ok (.invokevirtual 88, 3) := by decide +kernel
theorem dL_isSo_371 : decode cL_isSo 371 = .ok (.lsub, 1) := by decide +kernel
theorem dL_isSo_372 : decode cL_isSo 372 = .ok (.aload_n 0, 1) := by decide +kernel
theorem dL_isSo_373 : decode cL_isSo 373 = .ok (.iconst 3, 1) := by decide +kernel
theorem dL_isSo_374 : decode cL_isSo 374 = .ok (.invokevirtual 88, 3) := by decide +kernel
theorem dL_isSo_377 : decode cL_isSo 377 = .ok (.lsub, 1) := by decide +kernel
theorem dL_isSo_378 : decode cL_isSo 378 = .ok (.aload_n 0, 1) := by decide +kernel
theorem dL_isSo_379 : decode cL_isSo 379 = .ok (.iconst 4, 1) := by decide +kernel
theorem dL_isSo_380 : decode cL_isSo 380 = .ok (.invokevirtual 88, 3) := by decide +kernel
theorem dL_isSo_383 : decode cL_isSo 383 = .ok (.lsub, 1) := by decide +kernel
theorem dL_isSo_384 : decode cL_isSo 384 = .ok (.aload_n 0, 1) := by decide +kernel
theorem dL_isSo_385 : decode cL_isSo 385 = .ok (.iconst 5, 1) := by decide +kernel
theorem dL_isSo_386 : decode cL_isSo 386 = .ok (.invokevirtual 88, 3) := by decide +kernel
theorem dL_isSo_389 : decode cL_isSo 389 = .ok (.lsub, 1) := by decide +kernel
theorem dL_isSo_390 : decode cL_isSo 390 = .ok (.lcmp, 1) := by decide +kernel
theorem dL_isSo_391 : decode cL_isSo 391 = .ok (.ifCond .ne 47, 3) := by decide +kernel
theorem dL_isSo_394 : decode cL_isSo 394 = .ok (.lload 4, 2) := by decide +kernel
theorem dL_isSo_396 : decode cL_isSo 396 = .ok (.aload_n 0, 1) := by decide +kernel
theorem dL_isSo_397 : decode cL_isSo 397 = .ok (.bipush 6, 2) := by decide +kernel
theorem dL_isSo_399 : decode cL_isSo 399 = .ok (.invokevirtual 88, 3) := by decide +kernel
theorem dL_isSo_402 : decode cL_isSo 402 = .ok (.lcmp, 1) := by decide +kernel
theorem dL_isSo_403 : decode cL_isSo 403 = .ok (.ifCond .ne 35, 3) := by decide +kernel
theorem dL_isSo_406 : decode cL_isSo 406 = .ok (.aload_n 0, 1) := by decide +kernel
theorem dL_isSo_407 : decode cL_isSo 407 = .ok (.bipush 8, 2) := by decide +kernel
theorem dL_isSo_409 : decode cL_isSo 409 = .ok (.invokestatic 146, 3) := by decide +kernel
theorem dL_isSo_412 : decode cL_isSo 412 = .ok (.ldc2_w 16, 3) := by decide +kernel
theorem dL_isSo_415 : decode cL_isSo 415 = .ok (.lcmp, 1) := by decide +kernel
theorem dL_isSo_416 : decode cL_isSo 416 = .ok (.ifCond .ne 22, 3) := by decide +kernel
theorem dL_isSo_419 : decode cL_isSo 419 = .ok (.aload_n 0, 1) := by decide +kernel
theorem dL_isSo_420 : decode cL_isSo 420 = .ok (.bipush 12, 2) := by decide +kernel
theorem dL_isSo_422 : decode cL_isSo 422 = .ok (.iconst 0, 1) := by decide +kernel
theorem dL_isSo_423 : decode cL_isSo 423 = .ok (.iconst 1, 1) := by decide +kernel
theorem dL_isSo_424 : decode cL_isSo 424 = .ok (.invokestatic 148, 3) := by decide +kernel
theorem dL_isSo_427 : decode cL_isSo 427 = .ok (.ldc2_w 16, 3) := by decide +kernel
theorem dL_isSo_430 : decode cL_isSo 430 = .ok (.lcmp, 1) := by decide +kernel
theorem dL_isSo_431 : decode cL_isSo 431 = .ok (.ifCond .ne 7, 3) := by decide +kernel
theorem dL_isSo_434 : decode cL_isSo 434 = .ok (.iconst 1, 1) := by decide +kernel
theorem dL_isSo_435 : decode cL_isSo 435 = .ok (.goto 4, 3) := by decide +kernel
theorem dL_isSo_438 : decode cL_isSo 438 = .ok (.iconst 0, 1) := by decide +kernel
theorem dL_isSo_439 : decode cL_isSo 439 = .ok (.ireturn, 1) := by decide +kernel
theorem dL_law_0 : decode cL_law 0 = .ok (.new 9, 3) := by decide +kernel
theorem dL_law_3 : decode cL_law 3 = .ok (.dup, 1) := by decide +kernel
theorem dL_law_4 : decode cL_law 4 = .ok (.invokespecial 159, 3) := by decide +kernel
theorem dL_law_7 : decode cL_law 7 = .ok (.astore_n 1, 1) := by decide +kernel
theorem dL_law_8 : decode cL_law 8 = .ok (.new 9, 3) := by decide +kernel
theorem dL_law_11 : decode cL_law 11 = .ok (.dup, 1) := by decide +kernel
theorem dL_law_12 : decode cL_law 12 = .ok (.invokespecial 159, 3) := by decide +kernel
theorem dL_law_15 : decode cL_law 15 = .ok (.astore_n 2, 1) := by decide +kernel
theorem dL_law_16 : decode cL_law 16 = .ok (.lconst 0, 1) := by decide +kernel
theorem dL_law_17 : decode cL_law 17 = .ok (.lstore_n 3, 1) := by decide +kernel
theorem dL_law_18 : decode cL_law 18 = .ok (.iconst 0, 1) := by decide +kernel
theorem dL_law_19 : decode cL_law 19 = .ok (.istore 5, 2) := by decide +kernel
theorem dL_law_21 : decode cL_law 21 = .ok (.iload 5, 2) := by decide +kernel
theorem dL_law_23 : decode cL_law 23 = .ok (.bipush 120, 2) := by decide +kernel
theorem dL_law_25 : decode cL_law 25 = .ok (.if_icmp .ge 135, 3) := by decide +kernel
theorem dL_law_28 : decode cL_law 28 = .ok (.aload_n 0, 1) := by decide +kernel
theorem dL_law_29 : decode cL_law 29 = .ok (.iload 5, 2) := by decide +kernel
theorem dL_law_31 : decode cL_law 31 = .ok (.invokestatic 160, 3) := by decide +kernel
theorem dL_law_34 : decode cL_law 34 = .ok (.istore 6, 2) := by decide +kernel
theorem dL_law_36 : decode cL_law 36 = .ok (.aload_n 1, 1) := by decide +kernel
theorem dL_law_37 : decode cL_law 37 = .ok (.bipush 6, 2) := by decide +kernel
theorem dL_law_39 : decode cL_law 39 = .ok (.invokevirtual 88, 3) := by decide +kernel
theorem dL_law_42 : decode cL_law 42 = .ok (.lstore 7, 2) := by decide +kernel
theorem dL_law_44 : decode cL_law 44 = .ok (.iload 6, 2) := by decide +kernel
theorem dL_law_46 : decode cL_law 46 = .ok (.bipush 32, 2) := by decide +kernel
theorem dL_law_48 : decode cL_law 48 = .ok (.invokestatic 92, 3) := by decide +kernel
theorem dL_law_51 : decode cL_law 51 = .ok (.iconst 2, 1) := by decide +kernel
theorem dL_law_52 : decode cL_law 52 = .ok (.if_icmp .ge 7, 3) := by decide +kernel
theorem dL_law_55 : decode cL_law 55 = .ok (.iconst 1, 1) := by decide +kernel
theorem dL_law_56 : decode cL_law 56 = .ok (.goto 4, 3) := by decide +kernel
theorem dL_law_59 : decode cL_law 59 = .ok (.iconst 0, 1) := by decide +kernel
theorem dL_law_60 : decode cL_law 60 = .ok (.istore 9, 2) := by decide +kernel
theorem dL_law_62 : decode cL_law 62 = .ok (.aload_n 1, 1) := by decide +kernel
theorem dL_law_63 : decode cL_law 63 = .ok (.iload 6, 2) := by decide +kernel
theorem dL_law_65 : decode cL_law 65 = .ok (.invokestatic 164, 3) := by decide +kernel
theorem dL_law_68 : decode cL_law 68 = .ok (.lstore 10, 2) := by decide +kernel
theorem dL_law_70 : decode cL_law 70 = .ok (.lload_n 3, 1) := by decide +kernel
theorem dL_law_71 : decode cL_law 71 = .ok (.iload 9, 2) := by decide +kernel
theorem dL_law_73 : decode cL_law 73 = .ok (.ifCond .eq 15, 3) := by decide +kernel
theorem dL_law_76 : decode cL_law 76 = .ok (.aload_n 1, 1) := by decide +kernel
theorem dL_law_77 : decode cL_law 77 = .ok (.bipush 6, 2) := by decide +kernel
theorem dL_law_79 : decode cL_law 79 = .ok (.invokevirtual 88, 3) := by decide +kernel
theorem dL_law_82 : decode cL_law 82 = .ok (.lload 7, 2) := by decide +kernel
theorem dL_law_84 : decode cL_law 84 = .ok (.lsub, 1) := by decide +kernel
theorem dL_law_85 : decode cL_law 85 = .ok (.goto 4, 3) := by decide +kernel
theorem dL_law_88 : decode cL_law 88 = .ok (.lconst 0, 1) := by decide +kernel
theorem dL_law_89 : decode cL_law 89 = .ok (.ladd, 1) := by decide +kernel
theorem dL_law_90 : decode cL_law 90 = .ok (.lstore_n 3, 1) := by decide +kernel
theorem dL_law_91 : decode cL_law 91 = .ok (.lload 10, 2) := by decide +kernel
theorem dL_law_93 : decode cL_law 93 = .ok (.ldc2_w 16, 3) := by decide +kernel
theorem dL_law_96 : decode cL_law 96 = .ok (.lcmp, 1) := by decide +kernel
theorem dL_law_97 : decode cL_law 97 = .ok (.ifCond .eq 15, 3) := by decide +kernel
theorem dL_law_100 : decode cL_law 100 = .ok (.aload_n 2, 1) := by decide +kernel
theorem dL_law_101 : decode cL_law 101 = .ok (.iload 6, 2) := by decide +kernel
theorem dL_law_103 : decode cL_law 103 = .ok (.invokestatic 164, 3) := by decide +kernel
theorem dL_law_106 : decode cL_law 106 = .ok (.lload 10, 2) := by decide +kernel
theorem dL_law_108 : decode cL_law 108 = .ok (.lcmp, 1) := by decide +kernel
theorem dL_law_109 : decode cL_law 109 = .ok (.ifCond .ne 43, 3) := by decide +kernel
theorem dL_law_112 : decode cL_law 112 = .ok (.iload 5, 2) := by decide +kernel
theorem dL_law_114 : decode cL_law 114 = .ok (.bipush 24, 2) := by decide +kernel
theorem dL_law_116 : decode cL_law 116 = .ok (.irem, 1) := by decide +kernel
theorem dL_law_117 : decode cL_law 117 = .ok (.bipush 23, 2) := by decide +kernel
theorem dL_law_119 : decode cL_law 119 = .ok (.if_icmp .ne 15, 3) := by decide +kernel
theorem dL_law_122 : decode cL_law 122 = .ok (.aload_n 1, 1) := by decide +kernel
theorem dL_law_123 : decode cL_law 123 = .ok (.aload_n 2, 1) := by decide +kernel
theorem dL_law_124 : decode cL_law 124 = .ok (.iload 6, 2) := by decide +kernel
theorem dL_law_126 : decode cL_law 126 = .ok (.iconst 3, 1) := by decide +kernel
theorem dL_law_127 : decode cL_law 127 = .ok (.ishr, 1) := by decide +kernel
theorem dL_law_128 : decode cL_law 128 = .ok (.invokestatic 167, 3) := by decide +kernel
theorem dL_law_131 : decode cL_law 131 = .ok (.ifCond .eq 21, 3) := by decide +kernel
theorem dL_law_134 : decode cL_law 134 = .ok (.iload 5, 2) := by decide +kernel
theorem dL_law_136 : decode cL_law 136 = .ok (.bipush 60, 2) := by decide +kernel
theorem dL_law_138 : decode cL_law 138 = .ok (.irem, 1) := by decide +kernel
theorem dL_law_139 : decode cL_law 139 = .ok (.bipush 59, 2) := by decide +kernel
theorem dL_law_141 : decode cL_law 141 = .ok (.if_icmp .ne 13, 3) := by decide +kernel
theorem dL_law_144 : decode cL_law 144 = .ok (.aload_n 1, 1) := by decide +kernel
theorem dL_law_145 : decode cL_law 145 = .ok (.lload_n 3, 1) := by decide +kernel
theorem dL_law_146 : decode cL_law 146 = .ok (.invokestatic 171, 3) := by decide +kernel
theorem dL_law_149 : decode cL_law 149 = .ok (.ifCond .ne 5, 3) := by decide +kernel
theorem dL_law_152 : decode cL_law 152 = .ok (.iconst 0, 1) := by decide +kernel
theorem dL_law_153 : decode cL_law 153 = .ok (.ireturn, 1) := by decide +kernel
theorem dL_law_154 : decode cL_law 154 = .ok (.iinc 5 1, 3) := by decide +kernel
theorem dL_law_157 : decode cL_law 157 = .ok (.goto (-136), 3) := by decide +kernel
theorem dL_law_160 : decode cL_law 160 = .ok (.iconst 1, 1) := by decide +kernel
theorem dL_law_161 : decode cL_law 161 = .ok (.ireturn, 1) := by decide +kernel
abbrev vwCl : List vw_C := [(RX0, TX0, 8), (RX1, TX1, 6), (RX2, TX2, 2), (RX3, TX3, 10), (RX4, TX4, 11), (RX5, TX5, 14)]
set_option maxRecDepth 100000 in
theorem inX0 : ∀ w ∈ u_ws RX0 TX0 8, w ∈ lw_tbl := by decide +kernel
set_option maxRecDepth 100000 in
theorem inX1 : ∀ w ∈ u_ws RX1 TX1 6, w ∈ lw_tbl := by decide +kernel
set_option maxRecDepth 100000 in
theorem inX2 : ∀ w ∈ u_ws RX2 TX2 2, w ∈ lw_tbl := by decide +kernel
set_option maxRecDepth 100000 in
theorem inX3 : ∀ w ∈ u_ws RX3 TX3 10, w ∈ lw_tbl := by decide +kernel
set_option maxRecDepth 100000 in
theorem inX4 : ∀ w ∈ u_ws RX4 TX4 11, w ∈ lw_tbl := by decide +kernel
set_option maxRecDepth 100000 in
theorem inX5 : ∀ w ∈ u_ws RX5 TX5 14, w ∈ lw_tbl := by decide +kernel
