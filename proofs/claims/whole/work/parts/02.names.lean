/-! ===== BEGIN words of one list among another's, by their places ===== -/
theorem goodIn_r {big : List Cond} (ws : List Cond) (ps : List Nat) (hp : ws = ps.filterMap (fun i => big[i]?)) (h : ws.all goodWord = true) : GoodIn big ws := by
  intro w hw
  have h1 := List.all_eq_true.mp h w hw
  rw [hp] at hw
  obtain ⟨i, -, hi⟩ := List.mem_filterMap.mp hw
  have hm : w ∈ big := by first | exact List.mem_of_getElem? hi | exact List.getElem?_mem hi
  exact ⟨hm, good_of_word h1⟩
theorem goodIn_app {big a b : List Cond} (ha : GoodIn big a) (hb : GoodIn big b) : GoodIn big (a ++ b) := fun w h => (List.mem_append.mp h).elim (ha w) (hb w)
theorem goodIn_ca {big a b : List Cond} {c : Cond} (ha : GoodIn big (c :: a)) (hb : GoodIn big b) : GoodIn big (c :: (a ++ b)) := fun w h => (List.mem_cons.mp h).elim (fun e => ha w (List.mem_cons.mpr (Or.inl e))) (fun h => (List.mem_append.mp h).elim (fun h => ha w (List.mem_cons.mpr (Or.inr h))) (hb w))
theorem goodIn_sub {big ws : List Cond} (hm : ∀ w ∈ ws, w ∈ big) (h : ws.all goodWord = true) : GoodIn big ws := fun w hw => ⟨hm w hw, good_of_word (List.all_eq_true.mp h w hw)⟩
/-! ===== END ===== -/

/-! ===== BEGIN exceptions that leave a method, and their catching by the caller (launches without stack traces) ===== -/
section VXA
/-! The laws vx_back, vx_callV, vx_callS, vx_callSW, vx_throw0, vx_throwS follow proofs of the library, with one case more: JvmDerived/Free/Laws.lean (Back.of_free), Shelf42/LK1.lean (callV, callS), Shelf/KitTraced.lean (throwNew0V, throwNewS). -/
open Bundle
/-- where a method has thrown q: the class by its name, the cell, what was written, the world -/
def vx_T (XC : String → State → State → Prop) (st : State) (q : Addr) (t : State) (mc ms : Nat) (free : Addr → Prop) : Prop :=
  ∃ (E : String) (ce : Cell) (L : List Loc), XC E st t ∧ t.heap[q]? = some ce ∧ ce.vm = .none ∧ st.vm.findClass E = some ce.cls ∧ st.WarmedH t.vm ∧ st.sameButNew ({ t with vm := st.vm } : State) L mc ms ∧ ∀ z ∈ L, free z.base
def vx_Q (Qc : Array Value → State → Outcome → State → Prop) (XC : String → State → State → Prop) (mc ms : Nat) (free : Addr → Prop) : Array Value → State → Outcome → State → Prop := fun a st o t =>
  (Qc a st o t ∧ ∃ L, FrameEnd st o t L mc ms ∧ ∀ q ∈ L, free q.base) ∨ ∃ q, o = .threw q ∧ vx_T XC st q t mc ms free
/-- a callee that returns or throws -/
def vx_Met (l : Launch) (y : MethodName) (ws : List Cond) (rm : Room) (Pc : Array Value → State → Prop) (Qc : Array Value → State → Outcome → State → Prop) (XC : String → State → State → Prop) (mc ms : Nat) (free : Addr → Prop) : Prop :=
  MetFree l y (headSpec ws rm) Pc (fun _ _ _ _ _ => True) (vx_Q Qc XC mc ms free)
def vx_Post (XC : String → State → State → Prop) (mc ms : Nat) (free : Addr → Prop) : Pt → Array Value → Addr → Pt → Prop := fun A a q B =>
  ∃ (g : JFrame) (mk : MethodId) (t : State) (L : List Loc) (E : String) (ce : Cell), B.U.heap = t.heap ∧ B.U.vm = t.vm ∧ XC E (A.U.calling g mk a) t ∧ t.heap[q]? = some ce ∧ ce.vm = .none ∧ A.U.vm.findClass E = some ce.cls ∧ B.locs = A.locs ++ L ∧ (∀ z ∈ L, free z.base) ∧ B.cells = A.cells + mc ∧ B.slots = A.slots + ms
def vx_Back (l : Launch) (R : Room) (p : Program) (e : Env) (below : List Frame) (s : State) (sargs : Array Value) (y : MethodName) (len W9 : Nat)
    (Pre : Pt → Array Value → Prop) (Post : Pt → Array Value → Option Value → Pt → Prop) (PostX : Pt → Array Value → Addr → Pt → Prop) : Prop :=
  ∀ (m : MethodId) (meth : Method) (c : Code) (A : Pt) (g : JFrame) (ig : Instr) (mk : MethodId) (a : Array Value),
    Stand p l e R s m sargs below meth c A.U A.locs A.cells A.slots → g.method = m → g.locals.size = c.maxLocals → decode c.code g.pc = .ok (ig, len) →
    2 * g.monitorRoom + (g.stack.map fun v => v.category).sum ≤ W9 → A.U.methodNamed? y = some mk → Pre A a →
    (∃ (v : Option Value) (B : Pt), Stand p l e R s m sargs below meth c B.U B.locs B.cells B.slots ∧ Post A a v B ∧
      Steps p.tables e below (doInvoke e (A.U.setTop g) [] mk a).1 (B.U.setTop { g with pc := g.pc + len, stack := v.toList ++ g.stack })) ∨
    (∃ (q : Addr) (B : Pt), Stand p l e R s m sargs below meth c B.U B.locs B.cells B.slots ∧ PostX A a q B ∧
      Steps p.tables e below (doInvoke e (A.U.setTop g) [] mk a).1 ((B.U.setTop g).pushFrame (.throwing q)))
section Payer
variable {l : Launch} {R : Room} {p : Program} {e : Env} {below : List Frame} {s : State} {sargs : Array Value} {y : MethodName} {len W9 : Nat}
theorem vx_back {ws : List Cond} {rm : Room} {Pc : Array Value → State → Prop} {Qc : Array Value → State → Outcome → State → Prop} {XC : String → State → State → Prop} {mc ms : Nat} {free : Addr → Prop} {bytes : ByteArray} {maxL : Nat} {ret : Option FieldType}
    (hM : vx_Met l y ws rm Pc Qc XC mc ms free) (hblind : FrameBlind Pc) (hrc : rm.cells = mc) (hrs : rm.slots = ms)
    (hframes : rm.frames + 1 ≤ R.frames) (hlocals : W9 + (maxL + 11) + rm.locals ≤ R.locals)
    (hws : ∀ w ∈ ws, ∀ a' U, s.WarmedH U.vm → w.before a' U = true) (hcode : Cond.code y bytes maxL ret ∈ ws) (hinit : ∀ a' U, s.WarmedH U.vm → (Cond.initialized y.cls).before a' U = true) :
    vx_Back l R p e below s sargs y len W9 (PreOf R mc ms Pc) (PostOf Qc mc ms free) (vx_Post XC mc ms free) := by
  intro m meth c A g ig mk a X hg hsize hdg hW hn hp
  have h1 : (headSpec ws rm).pre.before a A.U = true := atoms_intro fun w hw => hws w hw _ _ X.warmed
  have h2 : (Cond.code y bytes maxL ret).before a A.U = true := hws _ hcode _ _ X.warmed
  have h3 : (Cond.initialized y.cls).before a A.U = true := hinit _ _ X.warmed
  have h4 : A.cells + (headSpec ws rm).room.cells ≤ R.cells := by rw [show (headSpec ws rm).room.cells = mc from hrc]; exact hp.1
  have h5 : A.slots + (headSpec ws rm).room.slots ≤ R.slots := by rw [show (headSpec ws rm).room.slots = ms from hrs]; exact hp.2.1
  have hPc : Pc a (A.U.calling g mk a) := hblind _ _ _ _ hp.2.2
  obtain ⟨U, Ls, c0, s0⟩ := A
  dsimp only [Pt.U, Pt.locs, Pt.cells, Pt.slots] at h1 h2 h3 h4 h5 X hn hPc ⊢
  obtain ⟨methY, cY, hmY, hcY, -, hlY, -, -, -, -⟩ := Cond.code_spec hn h2
  obtain ⟨kY, hkY, -⟩ := className_of_methodNamed hn
  have hinitY : kY.init = .initialized := Cond.initialized_spec (findClass_of_methodNamed hn) hkY h3
  have h : At U g.method c below := by rw [hg]; exact X.here
  have hlocals9 : W9 + (maxL + 11) + (headSpec ws rm).room.locals ≤ R.locals := hlocals
  have happ : (headSpec ws rm).appliesLoose y e.platform (U.calling g mk a) = true :=
    Spec.appliesLoose_calling (g := g) h hdg hn hkY hinitY
      (X.room_calling (g := g) (R' := (headSpec ws rm).room) hsize hmY hcY hframes (by rw [hlY]; omega) h4 h5) h1
  obtain ⟨mid, hmid⟩ := h.above
  have hfr : (U.setTop g).frames = (.java g :: mid) ++ below := by rw [State.frames_setTop' g h.top, hmid]; rfl
  obtain ⟨o, s₂, hsteps, -, hend, hq⟩ := Steps.callFree hM p X.admits X.cas X.clock (acts := []) hfr happ hPc trivial
  have hq' : vx_Q Qc XC mc ms free a (U.calling g mk a) o s₂ := hq
  rw [State.frames_setTop' g h.top] at hend
  obtain ⟨g₀, hg0⟩ := Option.isSome_iff_exists.mp h.top
  obtain ⟨r, hr⟩ := State.topJava?_eq_some.mp hg0
  have hr' : (({ U with heap := s₂.heap, slotsUsed := s₂.slotsUsed } : State).setVm s₂.vm).frames = .java g₀ :: r := hr
  rcases hq' with ⟨hqc, L, hfe, hL⟩ | ⟨q, rfl, E, ce, L, hx, hce, hcv, hcl, hW₂, hsm, hL⟩
  · obtain ⟨⟨v, rfl⟩, hW₂, e2, q2, q3, q4, q5, q6⟩ := id hfe
    have e3 : s₂ = ({ (U.calling g mk a).setFrames s₂.frames with heap := s₂.heap, slotsUsed := s₂.slotsUsed } : State).setVm s₂.vm := by
      have : s₂ = ({ s₂ with vm := (U.calling g mk a).vm } : State).setVm s₂.vm := rfl
      rw [e2] at this
      exact this
    obtain ⟨c₂, i₂, len₂, hc₂, hd₂, hf₂⟩ := hend
    have hW' : U.WarmedH s₂.vm := hW₂
    have hcc : c₂ = c := by
      have h1 : s₂.code? g.method = U.code? g.method := by
        rw [State.code?_eq, State.code?_eq, hW'.alike.method?]
      exact Option.some.inj (hc₂.symm.trans (h1.trans h.code))
    subst hcc
    have hlen : len₂ = len := by rw [hdg] at hd₂; cases hd₂; rfl
    subst hlen
    have hs₂ : s₂ = (({ U with heap := s₂.heap, slotsUsed := s₂.slotsUsed } : State).setVm s₂.vm).setTop { g with pc := g.pc + len₂, stack := v.toList ++ g.stack } := by
      refine e3.trans ?_
      rw [hf₂, State.calling_eq h.top, State.setFrames_setFrames, State.setTop_of_frames _ hr', hr]
      rfl
    have hsame : U.sameButNew ({ U with heap := s₂.heap, slotsUsed := s₂.slotsUsed } : State) L mc ms := by
      refine ⟨?_, q2, q3, q4, q5, q6⟩
      obtain ⟨t, ht, -⟩ := State.frames_cons hr
      show ({ U with heap := s₂.heap, slotsUsed := s₂.slotsUsed } : State) = { U.setFrames U.frames with heap := s₂.heap, slotsUsed := s₂.slotsUsed }
      rw [State.setFrames_self ht]
    subst hg
    refine Or.inl ⟨v, ⟨(({ U with heap := s₂.heap, slotsUsed := s₂.slotsUsed } : State).setVm s₂.vm), Ls ++ L, c0 + mc, s0 + ms⟩,
      ⟨X.admits, X.cas, X.clock, X.frames, X.room, X.hears, X.method, X.code, (X.here.setHeapUsed s₂.heap s₂.slotsUsed).setVm hW'.alike, X.tail, State.WarmedH.trans X.warmed hW', X.limits, X.bytes, X.same.trans (hsame.setVm s.vm)⟩,
      ⟨g, mk, s₂, L, rfl, rfl, hqc, rfl, hL, rfl, rfl⟩, ?_⟩
    show Steps p.tables e below _ ((({ U with heap := s₂.heap, slotsUsed := s₂.slotsUsed } : State).setVm s₂.vm).setTop { g with pc := g.pc + len₂, stack := v.toList ++ g.stack })
    rw [← hs₂]
    exact hsteps
  · obtain ⟨e2, q2, q3, q4, q5, q6⟩ := id hsm
    have e3 : s₂ = ({ (U.calling g mk a).setFrames s₂.frames with heap := s₂.heap, slotsUsed := s₂.slotsUsed } : State).setVm s₂.vm := by
      have : s₂ = ({ s₂ with vm := (U.calling g mk a).vm } : State).setVm s₂.vm := rfl
      rw [e2] at this
      exact this
    have hf₂ : s₂.frames = .throwing q :: .java g :: U.frames.tail := hend
    have hW' : U.WarmedH s₂.vm := hW₂
    have hs₂ : s₂ = ((({ U with heap := s₂.heap, slotsUsed := s₂.slotsUsed } : State).setVm s₂.vm).setTop g).pushFrame (.throwing q) := by
      refine e3.trans ?_
      rw [hf₂, State.calling_eq h.top, State.setFrames_setFrames, State.pushFrame, State.frames_setTop _ hr', State.setTop_of_frames _ hr', State.setFrames_setFrames, hr]
      rfl
    have hsame : U.sameButNew ({ U with heap := s₂.heap, slotsUsed := s₂.slotsUsed } : State) L mc ms := by
      refine ⟨?_, q2, q3, q4, q5, q6⟩
      obtain ⟨t, ht, -⟩ := State.frames_cons hr
      show ({ U with heap := s₂.heap, slotsUsed := s₂.slotsUsed } : State) = { U.setFrames U.frames with heap := s₂.heap, slotsUsed := s₂.slotsUsed }
      rw [State.setFrames_self ht]
    subst hg
    refine Or.inr ⟨q, ⟨(({ U with heap := s₂.heap, slotsUsed := s₂.slotsUsed } : State).setVm s₂.vm), Ls ++ L, c0 + mc, s0 + ms⟩,
      ⟨X.admits, X.cas, X.clock, X.frames, X.room, X.hears, X.method, X.code, (X.here.setHeapUsed s₂.heap s₂.slotsUsed).setVm hW'.alike, X.tail, State.WarmedH.trans X.warmed hW', X.limits, X.bytes, X.same.trans (hsame.setVm s.vm)⟩,
      ⟨g, mk, s₂, L, E, ce, rfl, rfl, hx, hce, hcv, hcl, rfl, hL, rfl, rfl⟩, ?_⟩
    show Steps p.tables e below _ (((({ U with heap := s₂.heap, slotsUsed := s₂.slotsUsed } : State).setVm s₂.vm).setTop g).pushFrame (.throwing q))
    rw [← hs₂]
    exact hsteps
end Payer
section Calls
variable {p : Program} {l : Launch} {e : Env} {R : Room} {s : State} {m : MethodId} {args : Array Value} {below : List Frame} {meth : Method} {c : Code} {T : State} {locs : List Loc} {cells slots : Nat}
theorem vx_callV (X : Stand p l e R s m args below meth c T locs cells slots) (hexec : p.tables.exec = Jvm.exec) {own C : String} {index : Nat} {y : MethodName} {bytes : ByteArray} {maxL : Nat} {ret : Option FieldType}
    (hown : s.vm.findClass own = some m.cls) (hlink : (Cond.methodLink own index y).before args s = true) (hinst : (Cond.instanceMethod y).before args s = true) (hsel : (Cond.selects C y y).before args s = true)
    (hcode : (Cond.code y bytes maxL ret).before args s = true) (hy : y.cls ≠ "java/lang/invoke/MethodHandle" ∧ y.cls ≠ "java/lang/invoke/VarHandle")
    {W9 : Nat} {Pre : Pt → Array Value → Prop} {Post : Pt → Array Value → Option Value → Pt → Prop} {PostX : Pt → Array Value → Addr → Pt → Prop} (hK : vx_Back l R p e below s args y 3 W9 Pre Post PostX)
    {b : Addr} {cellB : Cell} (hcell : T.heap[b]? = some cellB) (hobj : cellB.vm.isStatics = false) (hcls : s.vm.findClass C = some cellB.cls)
    {g : JFrame} (hg : g.method = m) (hsize : g.locals.size = c.maxLocals) {argsL rest : List Value} (hlen : ∀ sig, parseMethodDescriptor y.desc = some sig → argsL.length = sig.parameters.length)
    (hstack : g.stack = argsL.reverse ++ .ref b :: rest) (hW : 2 * g.monitorRoom + (rest.map fun v => v.category).sum ≤ W9) (hdg : decode c.code g.pc = .ok (.invokevirtual index, 3))
    (hpre : ∀ vm₁, s.WarmedH vm₁ → Pre ⟨T.setVm vm₁, locs, cells, slots⟩ (Value.ref b :: argsL).toArray) :
    (∃ (v : Option Value) (vm₁ : Vm) (B : Pt), s.WarmedH vm₁ ∧ Stand p l e R s m args below meth c B.U B.locs B.cells B.slots ∧ Post ⟨T.setVm vm₁, locs, cells, slots⟩ (Value.ref b :: argsL).toArray v B ∧
      ∀ target, Steps p.tables e below (B.U.setTop { g with pc := g.pc + 3, stack := v.toList ++ rest }) target → Steps p.tables e below (T.setTop g) target) ∨
    (∃ (q : Addr) (vm₁ : Vm) (B : Pt), s.WarmedH vm₁ ∧ Stand p l e R s m args below meth c B.U B.locs B.cells B.slots ∧ PostX ⟨T.setVm vm₁, locs, cells, slots⟩ (Value.ref b :: argsL).toArray q B ∧
      Steps p.tables e below (T.setTop g) ((B.U.setTop { g with stack := rest }).pushFrame (.throwing q))) := by
  obtain ⟨mk, methM, hnamed, hmethM, hstM, habM⟩ := Cond.instanceMethod_spec hinst
  obtain ⟨methM', cM, hmethM', -, -, -, -, -, -, hsigM⟩ := Cond.code_spec hnamed hcode
  cases hmethM.symm.trans hmethM'
  obtain ⟨c2, r2, m2, q1, q2, q3, q4, kP, hkP, hkPi⟩ := Cond.selects_spec hsel
  cases hcls.symm.trans q1
  cases (State.methodFound?_of_named hnamed hy).symm.trans q2
  cases hnamed.symm.trans q3
  have hselP : selectMethod e.platform s.vm cellB.cls mk = .method mk := by rw [Launch.admits_selectMethod X.admits]; exact q4
  obtain ⟨vm₁, X₁, hstep₁⟩ := X.invokevirtual hexec hown hlink hnamed hmethM hstM hkP hkPi hy (a := b) (cell := cellB) hcell
    (fun z h => by rw [h] at hobj; cases hobj) hselP hmethM habM hkP hkPi (g := g) hg (argsL := argsL) (rest := rest) (hlen _ hsigM) hstack hdg
  rcases hK m meth c ⟨T.setVm vm₁, locs, cells, slots⟩ { g with stack := rest } (.invokevirtual index) mk (Value.ref b :: argsL).toArray X₁ hg hsize hdg hW (X₁.named hnamed) (hpre vm₁ X₁.warmed) with ⟨v, B, X', hpost, hsteps⟩ | ⟨q, B, X', hpost, hsteps⟩
  · exact Or.inl ⟨v, vm₁, B, X₁.warmed, X', hpost, fun target h => hstep₁ _ fun acts => by rw [doInvoke_state]; exact hsteps.trans h⟩
  · exact Or.inr ⟨q, vm₁, B, X₁.warmed, X', hpost, hstep₁ _ fun acts => by rw [doInvoke_state]; exact hsteps⟩
theorem vx_callS (X : Stand p l e R s m args below meth c T locs cells slots) (hexec : p.tables.exec = Jvm.exec) {own : String} {index : Nat} {y : MethodName} {bytes : ByteArray} {maxL : Nat} {ret : Option FieldType}
    (hown : s.vm.findClass own = some m.cls) (hlink : (Cond.methodLink own index y).before args s = true) (hstat : (Cond.static y).before args s = true) (hinit : (Cond.initialized y.cls).before args s = true)
    (hcode : (Cond.code y bytes maxL ret).before args s = true) (hy : y.cls ≠ "java/lang/invoke/MethodHandle" ∧ y.cls ≠ "java/lang/invoke/VarHandle")
    {W9 : Nat} {Pre : Pt → Array Value → Prop} {Post : Pt → Array Value → Option Value → Pt → Prop} {PostX : Pt → Array Value → Addr → Pt → Prop} (hK : vx_Back l R p e below s args y 3 W9 Pre Post PostX)
    {g : JFrame} (hg : g.method = m) (hsize : g.locals.size = c.maxLocals) {argsL rest : List Value} (hlen : ∀ sig, parseMethodDescriptor y.desc = some sig → argsL.length = sig.parameters.length)
    (hstack : g.stack = argsL.reverse ++ rest) (hW : 2 * g.monitorRoom + (rest.map fun v => v.category).sum ≤ W9) (hdg : decode c.code g.pc = .ok (.invokestatic index, 3))
    (hpre : ∀ vm₁, s.WarmedH vm₁ → Pre ⟨T.setVm vm₁, locs, cells, slots⟩ argsL.toArray) :
    (∃ (v : Option Value) (vm₁ : Vm) (B : Pt), s.WarmedH vm₁ ∧ Stand p l e R s m args below meth c B.U B.locs B.cells B.slots ∧ Post ⟨T.setVm vm₁, locs, cells, slots⟩ argsL.toArray v B ∧
      ∀ target, Steps p.tables e below (B.U.setTop { g with pc := g.pc + 3, stack := v.toList ++ rest }) target → Steps p.tables e below (T.setTop g) target) ∨
    (∃ (q : Addr) (vm₁ : Vm) (B : Pt), s.WarmedH vm₁ ∧ Stand p l e R s m args below meth c B.U B.locs B.cells B.slots ∧ PostX ⟨T.setVm vm₁, locs, cells, slots⟩ argsL.toArray q B ∧
      Steps p.tables e below (T.setTop g) ((B.U.setTop { g with stack := rest }).pushFrame (.throwing q))) := by
  obtain ⟨mk, hnamed⟩ := Cond.code_named hcode
  obtain ⟨methM, cM, hmethM, -, -, -, -, -, -, hsigM⟩ := Cond.code_spec hnamed hcode
  have hstatic : methM.isStatic = true := Cond.static_spec hnamed hmethM hstat
  obtain ⟨kP, hkP, -⟩ := className_of_methodNamed hnamed
  have hinitP : kP.init = .initialized := Cond.initialized_spec (findClass_of_methodNamed hnamed) hkP hinit
  obtain ⟨vm₁, X₁, hstep₁⟩ := X.invokestatic hexec hown hlink hnamed hmethM hstatic hkP hinitP hy (g := g) hg (argsL := argsL) (rest := rest) (hlen _ hsigM) hstack hdg
  rcases hK m meth c ⟨T.setVm vm₁, locs, cells, slots⟩ { g with stack := rest } (.invokestatic index) mk argsL.toArray X₁ hg hsize hdg hW (X₁.named hnamed) (hpre vm₁ X₁.warmed) with ⟨v, B, X', hpost, hsteps⟩ | ⟨q, B, X', hpost, hsteps⟩
  · exact Or.inl ⟨v, vm₁, B, X₁.warmed, X', hpost, fun target h => hstep₁ _ fun acts => by rw [doInvoke_state]; exact hsteps.trans h⟩
  · exact Or.inr ⟨q, vm₁, B, X₁.warmed, X', hpost, hstep₁ _ fun acts => by rw [doInvoke_state]; exact hsteps⟩
end Calls
theorem vx_cls {s : State} {T : State} {vm₁ : Vm} {E : String} {k : ClassId} (hW : s.WarmedH vm₁) (h : (T.setVm vm₁).vm.findClass E = some k) : s.vm.findClass E = some k := by
  have h1 : vm₁.findClass E = some k := h
  rw [hW.alike.findClass] at h1
  exact h1
/-- the method's frame g, with q thrown over it -/
def vx_W (p : Program) (l : Launch) (e : Env) (R : Room) (s : State) (m : MethodId) (args : Array Value) (below : List Frame) (meth : Method) (c : Code) (H : Heap) (locs : List Loc) (cells slots : Nat) (Q : State → Prop) (g : JFrame) (q : Addr) : Prop :=
  ∀ T : State, T.heap = H → Stand p l e R s m args below meth c T locs cells slots → ∃ t, Steps p.tables e below ((T.setTop g).pushFrame (.throwing q)) t ∧ Q t
def vx_Run (p : Program) (l : Launch) (e : Env) (R : Room) (s : State) (m : MethodId) (args : Array Value) (below : List Frame) (meth : Method) (c : Code) (H : Heap) (locs : List Loc) (cells slots mc ms : Nat) (g : JFrame) (rest : List Value) (Qa : State → Outcome → State → Prop) (XC : String → State → State → Prop) (free : Addr → Prop) : Prop :=
  ∀ T : State, T.heap = H → Stand p l e R s m args below meth c T locs cells slots →
    (∃ (v : Option Value) (st₀ t T' : State) (L : List Loc), st₀.heap = H ∧ Stand p l e R s m args below meth c T' (locs ++ L) (cells + mc) (slots + ms) ∧ (∀ q ∈ L, free q.base) ∧ T'.heap = t.heap ∧ T'.vm = t.vm ∧ Qa st₀ (.returned v) t ∧
      Goes p e below T g T' { g with pc := g.pc + 3, stack := v.toList ++ rest }) ∨
    (∃ (q : Addr) (st₀ t T' : State) (L : List Loc) (E : String) (ce : Cell), st₀.heap = H ∧ Stand p l e R s m args below meth c T' (locs ++ L) (cells + mc) (slots + ms) ∧ (∀ z ∈ L, free z.base) ∧ T'.heap = t.heap ∧ T'.vm = t.vm ∧ XC E st₀ t ∧ t.heap[q]? = some ce ∧ ce.vm = .none ∧ s.vm.findClass E = some ce.cls ∧
      Steps p.tables e below (T.setTop g) ((T'.setTop { g with stack := rest }).pushFrame (.throwing q)))
def vx_X {S : Type} (px : S → Prop) (B : String → S → State → Prop) (A : Nat → Prop) : String → State → State → Prop := fun E st t => ∃ u : S, px u ∧ B E u t ∧ va_F A st t
section Runs
variable {p : Program} {l : Launch} {e : Env} {R : Room} {s : State} {m : MethodId} {args : Array Value} {below : List Frame} {meth : Method} {c : Code} {H : Heap} {locs : List Loc} {cells slots : Nat}
variable {y : MethodName} {bytes cc : ByteArray} {maxL nL mc ms n index : Nat} {ret : Option FieldType} {ws : List Cond} {rm : Room} {Pc : Array Value → State → Prop} {Qc : Array Value → State → Outcome → State → Prop} {XC : String → State → State → Prop} {free : Addr → Prop} {Ts : List Cond} {own C : String} {b : Addr} {As rest : List Value} {g : JFrame}
theorem vx_callBack (cb : CallB R s args own index y bytes maxL ret ws rm mc ms n) (hM : vx_Met l y ws rm Pc Qc XC mc ms free) (hbl : FrameBlind Pc) : vx_Back l R p e below s args y 3 8 (PreOf R mc ms Pc) (PostOf Qc mc ms free) (vx_Post XC mc ms free) := by
  obtain ⟨hrc, hrs, hfr, hlo, hws, hcw, -, hini, -⟩ := cb
  exact vx_back (bytes := bytes) (maxL := maxL) (ret := ret) hM hbl hrc hrs hfr hlo hws hcw (fun a' U hW => word_at hW (Or.inl (by first | rfl | simp [Cond.onTables, Cond.keeps, Cond.steady])) hini)
theorem vx_runV (S : CallFix p m c cc nL s args Ts own) (hM : vx_Met l y ws rm Pc Qc XC mc ms free) (cw : CallW R s args own C index y bytes maxL ret ws rm mc ms n) (hp : PreV s H C b Pc As)
    (hg : g.method = m) (hn : As.length = n) (hsize : g.locals.size = nL) (hstack : g.stack = As.reverse ++ .ref b :: rest) (hW : 2 * g.monitorRoom + (rest.map fun v => v.category).sum ≤ 8) (hdg : decode cc g.pc = .ok (.invokevirtual index, 3)) (hf : cells + mc ≤ R.cells ∧ slots + ms ≤ R.slots) :
    vx_Run p l e R s m args below meth c H locs cells slots mc ms g rest (Qc (Value.ref b :: As).toArray) XC free := by
  have hK : vx_Back l R p e below s args y 3 8 (PreOf R mc ms Pc) (PostOf Qc mc ms free) (vx_Post XC mc ms free) := vx_callBack cw.1 hM hp.1
  obtain ⟨⟨-, -, -, -, -, -, hcode, -, hy, hlen, hl⟩, hin, hse⟩ := cw
  obtain ⟨hx, hb, hml, ho, -⟩ := S
  obtain ⟨-, ⟨cellB, hcB, hoB, hclB⟩, hPc⟩ := hp
  intro T hT X
  rcases vx_callV X hx (C := C) (bytes := bytes) (maxL := maxL) (ret := ret) ho hl hin hse hcode hy hK (by rw [hT]; exact hcB) hoB hclB hg (hsize.trans hml.symm) (argsL := As) (rest := rest) (fun sig h => hn.trans (hlen sig h)) hstack hW (by rw [hb]; exact hdg)
    (fun vm₁ hW₁ => ⟨hf.1, hf.2, hPc (T.setVm vm₁) hT hW₁⟩) with ⟨v, vm₁, ⟨U', l2, c2, s2⟩, hW₁, X', ⟨g', mk, t, L, e1, e2, hq, h1, hL, h2, h3⟩, st⟩ | ⟨q, vm₁, ⟨U', l2, c2, s2⟩, hW₁, X', ⟨g', mk, t, L, E, ce, e1, e2, hq, hce, hcv, hcl, h1, hL, h2, h3⟩, st⟩
  · dsimp only [Pt.U, Pt.locs, Pt.cells, Pt.slots] at X' e1 e2 h1 h2 h3 st
    subst h1; subst h2; subst h3
    exact Or.inl ⟨v, (T.setVm vm₁).calling g' mk (Value.ref b :: As).toArray, t, U', L, hT, X', hL, e1, e2, hq, st⟩
  · dsimp only [Pt.U, Pt.locs, Pt.cells, Pt.slots] at X' e1 e2 h1 h2 h3 st hcl
    subst h1; subst h2; subst h3
    exact Or.inr ⟨q, (T.setVm vm₁).calling g' mk (Value.ref b :: As).toArray, t, U', L, E, ce, hT, X', hL, e1, e2, hq, hce, hcv, vx_cls hW₁ hcl, st⟩
theorem vx_runS (S : CallFix p m c cc nL s args Ts own) (hM : vx_Met l y ws rm Pc Qc XC mc ms free) (cw : CallB R s args own index y bytes maxL ret ws rm mc ms n ∧ (Cond.static y).before args s = true) (hp : PreS s H Pc As)
    (hg : g.method = m) (hn : As.length = n) (hsize : g.locals.size = nL) (hstack : g.stack = As.reverse ++ rest) (hW : 2 * g.monitorRoom + (rest.map fun v => v.category).sum ≤ 8) (hdg : decode cc g.pc = .ok (.invokestatic index, 3)) (hf : cells + mc ≤ R.cells ∧ slots + ms ≤ R.slots) :
    vx_Run p l e R s m args below meth c H locs cells slots mc ms g rest (Qc As.toArray) XC free := by
  have hK : vx_Back l R p e below s args y 3 8 (PreOf R mc ms Pc) (PostOf Qc mc ms free) (vx_Post XC mc ms free) := vx_callBack cw.1 hM hp.1
  obtain ⟨⟨-, -, -, -, -, -, hcode, hini, hy, hlen, hl⟩, hstt⟩ := cw
  obtain ⟨hx, hb, hml, ho, -⟩ := S
  intro T hT X
  rcases vx_callS X hx (bytes := bytes) (maxL := maxL) (ret := ret) ho hl hstt hini hcode hy hK hg (hsize.trans hml.symm) (argsL := As) (rest := rest) (fun sig h => hn.trans (hlen sig h)) hstack hW (by rw [hb]; exact hdg)
    (fun vm₁ hW₁ => ⟨hf.1, hf.2, hp.2 (T.setVm vm₁) hT hW₁⟩) with ⟨v, vm₁, ⟨U', l2, c2, s2⟩, hW₁, X', ⟨g', mk, t, L, e1, e2, hq, h1, hL, h2, h3⟩, st⟩ | ⟨q, vm₁, ⟨U', l2, c2, s2⟩, hW₁, X', ⟨g', mk, t, L, E, ce, e1, e2, hq, hce, hcv, hcl, h1, hL, h2, h3⟩, st⟩
  · dsimp only [Pt.U, Pt.locs, Pt.cells, Pt.slots] at X' e1 e2 h1 h2 h3 st
    subst h1; subst h2; subst h3
    exact Or.inl ⟨v, (T.setVm vm₁).calling g' mk As.toArray, t, U', L, hT, X', hL, e1, e2, hq, st⟩
  · dsimp only [Pt.U, Pt.locs, Pt.cells, Pt.slots] at X' e1 e2 h1 h2 h3 st hcl
    subst h1; subst h2; subst h3
    exact Or.inr ⟨q, (T.setVm vm₁).calling g' mk As.toArray, t, U', L, E, ce, hT, X', hL, e1, e2, hq, hce, hcv, vx_cls hW₁ hcl, st⟩
end Runs
section Rows
variable {p : Program} {l : Launch} {e : Env} {R : Room} {s : State} {m : MethodId} {args : Array Value} {below : List Frame} {meth : Method} {c : Code} {H : Heap} {locs : List Loc} {cells slots : Nat} {Q : State → Prop}
variable {mc ms : Nat} {free : Addr → Prop} {A0 A1 : Nat → Prop} {H0 : Heap} {a : Array Value} {pc : Nat} {ls : Array Slot} {st0 rest : List Value}
theorem vx_keep {st₀ t T' : State} {L : List Loc} (h0 : st₀.heap = H) (e1 : T'.heap = t.heap) (hS : va_S A0 H0 H locs) (hA : ∀ q, q < H.size → A1 q → A0 q) (hf : ∀ q, free q → A0 q) (hL : ∀ q ∈ L, free q.base) (hF : va_F A1 st₀ t) :
    H.size ≤ T'.heap.size ∧ (∀ q : Nat, q < H.size → ¬ A1 q → T'.heap[q]? = H[q]?) ∧ va_S A0 H0 T'.heap (locs ++ L) := by
  obtain ⟨hz, hk⟩ := hF
  rw [h0] at hz hk
  exact ⟨by rw [e1]; exact hz, fun q h1 h2 => by rw [e1]; exact hk q h1 h2,
    ⟨Nat.le_trans hS.1 (by rw [e1]; exact hz), fun q h1 h2 => by rw [e1, hk q (Nat.lt_of_lt_of_le h1 hS.1) (fun z => h2 (hA q (Nat.lt_of_lt_of_le h1 hS.1) z))]; exact hS.2.1 q h1 h2, fun q hq => by
      rcases List.mem_append.mp hq with h | h
      · exact hS.2.2 q h
      · exact hf _ (hL q h)⟩⟩
theorem vx_calli {S SX : Type} {post : Int32 → S → Prop} {px : SX → Prop} {B : S → State → Prop} {BX : String → SX → State → Prop} {AX : Nat → Prop} (hr : vx_Run p l e R s m args below meth c H locs cells slots mc ms (F0 m pc ls st0) rest (va_Qi post B A1 a) (vx_X px BX AX) free) (hS : va_S A0 H0 H locs) (hA : ∀ q, q < H.size → A1 q → A0 q) (hf : ∀ q, free q → A0 q) (hAX : ∀ q, q < H.size → AX q → A0 q)
    (kx : ∀ (E : String) (ce : Cell) (q9 : Addr) (u : SX) (t : State) (H1 : Heap) (locs1 : List Loc), t.heap = H1 → s.vm.Alike t.vm → px u → BX E u t → H.size ≤ H1.size → (∀ q : Nat, q < H.size → ¬ AX q → H1[q]? = H[q]?) → va_S A0 H0 H1 locs1 → H1[q9]? = some ce → ce.vm = .none → s.vm.findClass E = some ce.cls → vx_W p l e R s m args below meth c H1 locs1 (cells + mc) (slots + ms) Q (F0 m pc ls rest) q9)
    (kk : ∀ (r : Int32) (u : S) (t : State) (H1 : Heap) (locs1 : List Loc), t.heap = H1 → s.vm.Alike t.vm → post r u → B u t → H.size ≤ H1.size → (∀ q : Nat, q < H.size → ¬ A1 q → H1[q]? = H[q]?) → va_S A0 H0 H1 locs1 → W p l e R s m args below meth c H1 locs1 (cells + mc) (slots + ms) Q (F0 m (pc + 3) ls (.int r :: rest))) : W p l e R s m args below meth c H locs cells slots Q (F0 m pc ls st0) := by
  intro T hT X
  rcases hr T hT X with ⟨v, st₀, t, T', L, h0, X', hL, e1, e2, ⟨⟨r, u, hv, hp, hb⟩, hF⟩, st⟩ | ⟨q, st₀, t, T', L, E, ce, h0, X', hL, e1, e2, ⟨u, hp, hb, hF⟩, hce, hcv, hcl, st⟩
  · cases hv
    obtain ⟨k1, k2, k3⟩ := vx_keep h0 e1 hS hA hf hL hF
    obtain ⟨t2, a1, b1⟩ := kk r u t T'.heap (locs ++ L) e1.symm (by rw [← e2]; exact X'.warmed.alike) hp hb k1 k2 k3 T' rfl X'
    exact ⟨t2, st t2 a1, b1⟩
  · obtain ⟨k1, k2, k3⟩ := vx_keep h0 e1 hS hAX hf hL hF
    obtain ⟨t2, a1, b1⟩ := kx E ce q u t T'.heap (locs ++ L) e1.symm (by rw [← e2]; exact X'.warmed.alike) hp hb k1 k2 k3 (by rw [e1]; exact hce) hcv hcl T' rfl X'
    exact ⟨t2, st.trans a1, b1⟩
theorem vx_calll {S SX : Type} {post : Int64 → S → Prop} {px : SX → Prop} {B : S → State → Prop} {BX : String → SX → State → Prop} {AX : Nat → Prop} (hr : vx_Run p l e R s m args below meth c H locs cells slots mc ms (F0 m pc ls st0) rest (va_Ql post B A1 a) (vx_X px BX AX) free) (hS : va_S A0 H0 H locs) (hA : ∀ q, q < H.size → A1 q → A0 q) (hf : ∀ q, free q → A0 q) (hAX : ∀ q, q < H.size → AX q → A0 q)
    (kx : ∀ (E : String) (ce : Cell) (q9 : Addr) (u : SX) (t : State) (H1 : Heap) (locs1 : List Loc), t.heap = H1 → s.vm.Alike t.vm → px u → BX E u t → H.size ≤ H1.size → (∀ q : Nat, q < H.size → ¬ AX q → H1[q]? = H[q]?) → va_S A0 H0 H1 locs1 → H1[q9]? = some ce → ce.vm = .none → s.vm.findClass E = some ce.cls → vx_W p l e R s m args below meth c H1 locs1 (cells + mc) (slots + ms) Q (F0 m pc ls rest) q9)
    (kk : ∀ (r : Int64) (u : S) (t : State) (H1 : Heap) (locs1 : List Loc), t.heap = H1 → s.vm.Alike t.vm → post r u → B u t → H.size ≤ H1.size → (∀ q : Nat, q < H.size → ¬ A1 q → H1[q]? = H[q]?) → va_S A0 H0 H1 locs1 → W p l e R s m args below meth c H1 locs1 (cells + mc) (slots + ms) Q (F0 m (pc + 3) ls (.long r :: rest))) : W p l e R s m args below meth c H locs cells slots Q (F0 m pc ls st0) := by
  intro T hT X
  rcases hr T hT X with ⟨v, st₀, t, T', L, h0, X', hL, e1, e2, ⟨⟨r, u, hv, hp, hb⟩, hF⟩, st⟩ | ⟨q, st₀, t, T', L, E, ce, h0, X', hL, e1, e2, ⟨u, hp, hb, hF⟩, hce, hcv, hcl, st⟩
  · cases hv
    obtain ⟨k1, k2, k3⟩ := vx_keep h0 e1 hS hA hf hL hF
    obtain ⟨t2, a1, b1⟩ := kk r u t T'.heap (locs ++ L) e1.symm (by rw [← e2]; exact X'.warmed.alike) hp hb k1 k2 k3 T' rfl X'
    exact ⟨t2, st t2 a1, b1⟩
  · obtain ⟨k1, k2, k3⟩ := vx_keep h0 e1 hS hAX hf hL hF
    obtain ⟨t2, a1, b1⟩ := kx E ce q u t T'.heap (locs ++ L) e1.symm (by rw [← e2]; exact X'.warmed.alike) hp hb k1 k2 k3 (by rw [e1]; exact hce) hcv hcl T' rfl X'
    exact ⟨t2, st.trans a1, b1⟩
theorem vx_callf {S SX : Type} {post : UInt32 → S → Prop} {px : SX → Prop} {B : S → State → Prop} {BX : String → SX → State → Prop} {AX : Nat → Prop} (hr : vx_Run p l e R s m args below meth c H locs cells slots mc ms (F0 m pc ls st0) rest (va_Qf post B A1 a) (vx_X px BX AX) free) (hS : va_S A0 H0 H locs) (hA : ∀ q, q < H.size → A1 q → A0 q) (hf : ∀ q, free q → A0 q) (hAX : ∀ q, q < H.size → AX q → A0 q)
    (kx : ∀ (E : String) (ce : Cell) (q9 : Addr) (u : SX) (t : State) (H1 : Heap) (locs1 : List Loc), t.heap = H1 → s.vm.Alike t.vm → px u → BX E u t → H.size ≤ H1.size → (∀ q : Nat, q < H.size → ¬ AX q → H1[q]? = H[q]?) → va_S A0 H0 H1 locs1 → H1[q9]? = some ce → ce.vm = .none → s.vm.findClass E = some ce.cls → vx_W p l e R s m args below meth c H1 locs1 (cells + mc) (slots + ms) Q (F0 m pc ls rest) q9)
    (kk : ∀ (r : UInt32) (u : S) (t : State) (H1 : Heap) (locs1 : List Loc), t.heap = H1 → s.vm.Alike t.vm → post r u → B u t → H.size ≤ H1.size → (∀ q : Nat, q < H.size → ¬ A1 q → H1[q]? = H[q]?) → va_S A0 H0 H1 locs1 → W p l e R s m args below meth c H1 locs1 (cells + mc) (slots + ms) Q (F0 m (pc + 3) ls (.float r :: rest))) : W p l e R s m args below meth c H locs cells slots Q (F0 m pc ls st0) := by
  intro T hT X
  rcases hr T hT X with ⟨v, st₀, t, T', L, h0, X', hL, e1, e2, ⟨⟨r, u, hv, hp, hb⟩, hF⟩, st⟩ | ⟨q, st₀, t, T', L, E, ce, h0, X', hL, e1, e2, ⟨u, hp, hb, hF⟩, hce, hcv, hcl, st⟩
  · cases hv
    obtain ⟨k1, k2, k3⟩ := vx_keep h0 e1 hS hA hf hL hF
    obtain ⟨t2, a1, b1⟩ := kk r u t T'.heap (locs ++ L) e1.symm (by rw [← e2]; exact X'.warmed.alike) hp hb k1 k2 k3 T' rfl X'
    exact ⟨t2, st t2 a1, b1⟩
  · obtain ⟨k1, k2, k3⟩ := vx_keep h0 e1 hS hAX hf hL hF
    obtain ⟨t2, a1, b1⟩ := kx E ce q u t T'.heap (locs ++ L) e1.symm (by rw [← e2]; exact X'.warmed.alike) hp hb k1 k2 k3 (by rw [e1]; exact hce) hcv hcl T' rfl X'
    exact ⟨t2, st.trans a1, b1⟩
theorem vx_calld {S SX : Type} {post : UInt64 → S → Prop} {px : SX → Prop} {B : S → State → Prop} {BX : String → SX → State → Prop} {AX : Nat → Prop} (hr : vx_Run p l e R s m args below meth c H locs cells slots mc ms (F0 m pc ls st0) rest (va_Qd post B A1 a) (vx_X px BX AX) free) (hS : va_S A0 H0 H locs) (hA : ∀ q, q < H.size → A1 q → A0 q) (hf : ∀ q, free q → A0 q) (hAX : ∀ q, q < H.size → AX q → A0 q)
    (kx : ∀ (E : String) (ce : Cell) (q9 : Addr) (u : SX) (t : State) (H1 : Heap) (locs1 : List Loc), t.heap = H1 → s.vm.Alike t.vm → px u → BX E u t → H.size ≤ H1.size → (∀ q : Nat, q < H.size → ¬ AX q → H1[q]? = H[q]?) → va_S A0 H0 H1 locs1 → H1[q9]? = some ce → ce.vm = .none → s.vm.findClass E = some ce.cls → vx_W p l e R s m args below meth c H1 locs1 (cells + mc) (slots + ms) Q (F0 m pc ls rest) q9)
    (kk : ∀ (r : UInt64) (u : S) (t : State) (H1 : Heap) (locs1 : List Loc), t.heap = H1 → s.vm.Alike t.vm → post r u → B u t → H.size ≤ H1.size → (∀ q : Nat, q < H.size → ¬ A1 q → H1[q]? = H[q]?) → va_S A0 H0 H1 locs1 → W p l e R s m args below meth c H1 locs1 (cells + mc) (slots + ms) Q (F0 m (pc + 3) ls (.double r :: rest))) : W p l e R s m args below meth c H locs cells slots Q (F0 m pc ls st0) := by
  intro T hT X
  rcases hr T hT X with ⟨v, st₀, t, T', L, h0, X', hL, e1, e2, ⟨⟨r, u, hv, hp, hb⟩, hF⟩, st⟩ | ⟨q, st₀, t, T', L, E, ce, h0, X', hL, e1, e2, ⟨u, hp, hb, hF⟩, hce, hcv, hcl, st⟩
  · cases hv
    obtain ⟨k1, k2, k3⟩ := vx_keep h0 e1 hS hA hf hL hF
    obtain ⟨t2, a1, b1⟩ := kk r u t T'.heap (locs ++ L) e1.symm (by rw [← e2]; exact X'.warmed.alike) hp hb k1 k2 k3 T' rfl X'
    exact ⟨t2, st t2 a1, b1⟩
  · obtain ⟨k1, k2, k3⟩ := vx_keep h0 e1 hS hAX hf hL hF
    obtain ⟨t2, a1, b1⟩ := kx E ce q u t T'.heap (locs ++ L) e1.symm (by rw [← e2]; exact X'.warmed.alike) hp hb k1 k2 k3 (by rw [e1]; exact hce) hcv hcl T' rfl X'
    exact ⟨t2, st.trans a1, b1⟩
theorem vx_callv {S SX : Type} {post : S → Prop} {px : SX → Prop} {B : S → State → Prop} {BX : String → SX → State → Prop} {AX : Nat → Prop} (hr : vx_Run p l e R s m args below meth c H locs cells slots mc ms (F0 m pc ls st0) rest (va_Qv post B A1 a) (vx_X px BX AX) free) (hS : va_S A0 H0 H locs) (hA : ∀ q, q < H.size → A1 q → A0 q) (hf : ∀ q, free q → A0 q) (hAX : ∀ q, q < H.size → AX q → A0 q)
    (kx : ∀ (E : String) (ce : Cell) (q9 : Addr) (u : SX) (t : State) (H1 : Heap) (locs1 : List Loc), t.heap = H1 → s.vm.Alike t.vm → px u → BX E u t → H.size ≤ H1.size → (∀ q : Nat, q < H.size → ¬ AX q → H1[q]? = H[q]?) → va_S A0 H0 H1 locs1 → H1[q9]? = some ce → ce.vm = .none → s.vm.findClass E = some ce.cls → vx_W p l e R s m args below meth c H1 locs1 (cells + mc) (slots + ms) Q (F0 m pc ls rest) q9)
    (kk : ∀ (u : S) (t : State) (H1 : Heap) (locs1 : List Loc), t.heap = H1 → s.vm.Alike t.vm → post u → B u t → H.size ≤ H1.size → (∀ q : Nat, q < H.size → ¬ A1 q → H1[q]? = H[q]?) → va_S A0 H0 H1 locs1 → W p l e R s m args below meth c H1 locs1 (cells + mc) (slots + ms) Q (F0 m (pc + 3) ls (rest))) : W p l e R s m args below meth c H locs cells slots Q (F0 m pc ls st0) := by
  intro T hT X
  rcases hr T hT X with ⟨v, st₀, t, T', L, h0, X', hL, e1, e2, ⟨⟨u, hv, hp, hb⟩, hF⟩, st⟩ | ⟨q, st₀, t, T', L, E, ce, h0, X', hL, e1, e2, ⟨u, hp, hb, hF⟩, hce, hcv, hcl, st⟩
  · cases hv
    obtain ⟨k1, k2, k3⟩ := vx_keep h0 e1 hS hA hf hL hF
    obtain ⟨t2, a1, b1⟩ := kk u t T'.heap (locs ++ L) e1.symm (by rw [← e2]; exact X'.warmed.alike) hp hb k1 k2 k3 T' rfl X'
    exact ⟨t2, st t2 a1, b1⟩
  · obtain ⟨k1, k2, k3⟩ := vx_keep h0 e1 hS hAX hf hL hF
    obtain ⟨t2, a1, b1⟩ := kx E ce q u t T'.heap (locs ++ L) e1.symm (by rw [← e2]; exact X'.warmed.alike) hp hb k1 k2 k3 (by rw [e1]; exact hce) hcv hcl T' rfl X'
    exact ⟨t2, st.trans a1, b1⟩
/-- caught by the row x of this method's table; the rows ahead don't take it -/
theorem vx_catch {own name : String} {E : String} {ce : Cell} {q : Addr} (hown : s.vm.findClass own = some m.cls) (pre : List ExceptionTableEntry) (x : ExceptionTableEntry) (suf : List ExceptionTableEntry) (hsplit : c.exceptionTable.toList = pre ++ x :: suf)
    (hpass : ∀ z ∈ pre, covers z pc = false ∨ (z.catchType ≠ 0 ∧ ∃ nm : String, (Cond.classLink own z.catchType nm).before args s = true ∧ va_Nc E nm s)) (hx : covers x pc = true) (h0 : x.catchType ≠ 0)
    (hlink : (Cond.classLink own x.catchType name).before args s = true) (hcast : (Cond.castable E name).before args s = true) (hcell : H[q]? = some ce) (hv : ce.vm = .none) (hcl : s.vm.findClass E = some ce.cls)
    (kk : W p l e R s m args below meth c H locs cells slots Q (F0 m x.handlerPc ls [.ref q])) : vx_W p l e R s m args below meth c H locs cells slots Q (F0 m pc ls rest) q := by
  intro T hT X
  have hpl : e.platform.magicAccessors = ({} : Platform).magicAccessors := by rw [X.admits.platform]
  obtain ⟨c3, c4, hc3, hc4, hasg⟩ := Cond.castable_spec hcast
  cases Option.some.inj (hc3.symm.trans hcl)
  obtain ⟨c5, hc5, hcl5⟩ := Cond.classLink_spec hown hlink e.platform hpl
  cases Option.some.inj (hc4.symm.trans hc5)
  obtain ⟨vm', X', st⟩ := X.thenCaughtThrough q (g := F0 m pc ls rest) rfl (Steps.refl _) (by rw [hT]; exact hcell) (by rw [hv]; rfl) (by obtain ⟨k9, h9, -⟩ := Vm.findClass_spec hcl; exact ⟨k9, h9⟩) pre x suf hsplit
    (fun z hz => by
      rcases hpass z hz with h | ⟨hz0, nm, hl1, hn1⟩
      · exact Or.inl h
      · obtain ⟨c6, hc6, hcl6⟩ := Cond.classLink_spec hown hl1 e.platform hpl
        obtain ⟨a8, b8, h1, h2, h3⟩ := hn1
        cases Option.some.inj (h1.symm.trans hcl)
        cases Option.some.inj (h2.symm.trans hc6)
        exact Or.inr ⟨hz0, _, hcl6, h3⟩) hx (Or.inr ⟨h0, c4, hcl5, hasg⟩)
  obtain ⟨t, a1, b1⟩ := kk (T.setVm vm') hT X'
  exact ⟨t, st.trans a1, b1⟩
end Rows
section Ends
variable {p : Program} {l : Launch} {e : Env} {R : Room} {s : State} {m : MethodId} {args : Array Value} {below : List Frame} {meth : Method} {c : Code} {H : Heap} {locs : List Loc} {cells slots : Nat} {Q : State → Prop}
variable {mc ms : Nat} {free : Addr → Prop} {A0 A1 : Nat → Prop} {H0 : Heap} {a : Array Value} {ls : Array Slot} {st0 rest : List Value}
variable {Qc : Array Value → State → Outcome → State → Prop} {XC : String → State → State → Prop}
/-- what a body that may throw owes at its end -/
def vx_MQ (below : List Frame) (Qc : Array Value → State → Outcome → State → Prop) (XC : String → State → State → Prop) (a : Array Value) (s : State) (mc ms : Nat) (free : Addr → Prop) : State → Prop := fun t =>
  ∃ o, t.status = .running ∧ Ended t below o ∧ vx_Q Qc XC mc ms free a s o t
theorem vx_ret {g : JFrame} {mc ms : Nat} (k : W p l e R s m args below meth c H locs cells slots (MQ below Qc args s mc ms free) g) : W p l e R s m args below meth c H locs cells slots (vx_MQ below Qc XC args s mc ms free) g := by
  intro T hT X
  obtain ⟨t, a1, o, b1, b2, b3, b4⟩ := k T hT X
  exact ⟨t, a1, o, b1, b2, Or.inl ⟨b3, b4⟩⟩
/-- not caught here: it goes on to the caller -/
theorem vx_widen {g : JFrame} {q : Addr} {k n : Nat} (h1 : cells ≤ k) (h2 : slots ≤ n) (kk : vx_W p l e R s m args below meth c H locs k n Q g q) : vx_W p l e R s m args below meth c H locs cells slots Q g q := fun T hT X => kk T hT (stand_widen X h1 h2)
theorem vx_out {pc : Nat} {E : String} {ce : Cell} {q : Addr} {mc ms : Nat} (hout : ∀ x ∈ c.exceptionTable.toList, covers x pc = false) (hlocks : meth.locks = false) (hcell : H[q]? = some ce) (hv : ce.vm = .none) (hcl : s.vm.findClass E = some ce.cls)
    (hx : ∀ t : State, t.heap = H → s.vm.Alike t.vm → XC E s t) (hf : ∀ z ∈ locs, free z.base) (hc : cells ≤ mc) (hs : slots ≤ ms) :
    vx_W p l e R s m args below meth c H locs cells slots (vx_MQ below Qc XC args s mc ms free) (F0 m pc ls rest) q := by
  intro T hT X
  obtain ⟨st1, hrun, hend, hW, hsm⟩ := X.leaveThrown q (g := F0 m pc ls rest) rfl rfl rfl hout hlocks
  have hcell9 : (T.setFrames (.throwing q :: below)).heap[q]? = some ce := by
    show T.heap[q]? = some ce
    rw [hT]; exact hcell
  exact ⟨_, st1, .threw q, hrun, hend, Or.inr ⟨q, rfl, E, ce, locs, hx _ hT hW.alike, hcell9, hv, hcl, hW, hsm.mono hc hs, hf⟩⟩
theorem vx_frame {U : State} {k n : Nat} (h : s.sameButNew ({ U with vm := s.vm } : State) locs k n) : s.heap.size ≤ U.heap.size ∧ ∀ q : Nat, q < s.heap.size → (∀ z ∈ locs, z.base ≠ q) → U.heap[q]? = s.heap[q]? := by
  obtain ⟨-, h2, -, -, -, h6⟩ := h
  refine ⟨h2, fun q hq hz => ?_⟩
  obtain ⟨c9, e1, e2, e3, e4⟩ := h6 q _ (Array.getElem?_eq_getElem hq)
  have hs : c9.slots = (s.heap[q]).slots := Array.ext_getElem? fun i => e4 i fun hm => hz _ hm rfl
  have h9 : c9 = s.heap[q] := by
    rw [hs] at e2
    exact e2
  have e5 : U.heap[q]? = some c9 := e1
  rw [e5, h9, Array.getElem?_eq_getElem hq]
/-- the words of a throw but the four that speak of the heap -/
def vx_no (w : Cond) : Bool := decide (w ≠ .isRef (.static tN "UNASSIGNED_STACK" steD)) && decide (w ≠ .isRef (.static tN "SUPPRESSED_SENTINEL" listD)) && decide (w ≠ .laysStatic tN "UNASSIGNED_STACK" steD) && decide (w ≠ .laysStatic tN "SUPPRESSED_SENTINEL" listD)
def vx_at0 (own : String) (ic : Nat) (X : String) (names : List String) : List Cond := (ownAtoms0 own ic X names).filter vx_no
def vx_atS (own : String) (ic : Nat) (X : String) (names : List String) : List Cond := (ownAtoms own ic X names).filter vx_no
/-- a word that the tables alone decide, or a good one -/
def vx_ot (w : Cond) : Bool := w.onTables || goodWord w
theorem vx_ot_at {args a' : Array Value} {s U : State} {w : Cond} (hW : s.WarmedH U.vm) (hvm : s.vm = U.vm) (hg : vx_ot w = true) (h : w.before args s = true) : w.before a' U = true := by
  simp only [vx_ot, Bool.or_eq_true] at hg
  rcases hg with hg | hg
  · exact va_tabs hg hvm h
  · exact word_at hW (good_of_word hg) h
/-- a list's words: the good ones out of the method's own list, the others by premises of their own -/
theorem vx_hat {args : Array Value} {s : State} {L B : List Cond} (h1 : ∀ w ∈ L.filter goodWord, w.before args s = true) (h2 : ∀ w ∈ L.filter (fun w => !goodWord w), w ∈ B) (h3 : ∀ w ∈ B, w.before args s = true) : ∀ w ∈ L, w.before args s = true := by
  intro w hw
  by_cases g : goodWord w = true
  · exact h1 w (List.mem_filter.mpr ⟨hw, g⟩)
  · refine h3 w (h2 w (List.mem_filter.mpr ⟨hw, ?_⟩))
    show (!goodWord w) = true
    cases hgw : goodWord w
    · rfl
    · exact absurd hgw g
theorem vx_c {args : Array Value} {s : State} {w : Cond} {B : List Cond} (h : w.before args s = true) (t : ∀ w ∈ B, w.before args s = true) : ∀ w' ∈ w :: B, w'.before args s = true := fun w' h' => (List.mem_cons.mp h').elim (fun e => by rw [e]; exact h) (t w')
theorem vx_n {args : Array Value} {s : State} : ∀ w ∈ ([] : List Cond), w.before args s = true := fun _ h => nomatch h
theorem vx_own {args : Array Value} {s : State} {L : List Cond} (h1 : ∀ w ∈ L.filter vx_no, w.before args s = true)
    (hU : (Cond.isRef (.static tN "UNASSIGNED_STACK" steD)).before args s = true) (hN : (Cond.isRef (.static tN "SUPPRESSED_SENTINEL" listD)).before args s = true)
    (lU : (Cond.laysStatic tN "UNASSIGNED_STACK" steD).before args s = true) (lN : (Cond.laysStatic tN "SUPPRESSED_SENTINEL" listD).before args s = true) : ∀ w ∈ L, w.before args s = true := by
  intro w hw
  by_cases e1 : w = .isRef (.static tN "UNASSIGNED_STACK" steD)
  · rw [e1]; exact hU
  · by_cases e2 : w = .isRef (.static tN "SUPPRESSED_SENTINEL" listD)
    · rw [e2]; exact hN
    · by_cases e3 : w = .laysStatic tN "UNASSIGNED_STACK" steD
      · rw [e3]; exact lU
      · by_cases e4 : w = .laysStatic tN "SUPPRESSED_SENTINEL" listD
        · rw [e4]; exact lN
        · exact h1 w (List.mem_filter.mpr ⟨hw, by unfold vx_no; rw [decide_eq_true e1, decide_eq_true e2, decide_eq_true e3, decide_eq_true e4]; rfl⟩)
/-- where a static field lies, its class's statics cell in H -/
def vx_L (C n d : String) (A : Nat → Prop) (U : State) (H : Heap) : Prop := ∃ (c : ClassId) (k : Class) (i : Nat) (f : Field) (a : Nat) (cell : Cell), U.vm.findClass C = some c ∧ U.fieldFound? C n d = some (c, k, i, f) ∧ f.isStatic = true ∧ k.statics = some a ∧ H[a]? = some cell ∧ cell.vm.isStatics = true ∧ cell.cls = c ∧ f.slot < cell.slots.size ∧ k.staticTypes[f.slot]? = some f.type ∧ ¬ A a
theorem vx_L.moved {C n d : String} {A : Nat → Prop} {u U : State} {H : Heap} (hvm : u.vm.Alike U.vm) (h : vx_L C n d A u H) : vx_L C n d A U H := by
  obtain ⟨c, k, i, f, a, cell, h1, h2, h3, h4, h5, h6, h7, h8, h9, h10⟩ := h
  obtain ⟨k', hi', he⟩ := State.fieldFound?_setVm hvm h2
  exact ⟨c, k', i, f, a, cell, by rw [hvm.findClass]; exact h1, hi', h3, by rw [he]; exact h4, h5, h6, h7, h8, by rw [he]; exact h9, h10⟩
theorem vx_L.kept {C n d : String} {A : Nat → Prop} {U : State} {H H1 : Heap} (h : vx_L C n d A U H) (hq : ∀ a : Nat, a < H.size → ¬ A a → H1[a]? = H[a]?) : vx_L C n d A U H1 := by
  obtain ⟨c, k, i, f, a, cell, h1, h2, h3, h4, h5, h6, h7, h8, h9, h10⟩ := h
  exact ⟨c, k, i, f, a, cell, h1, h2, h3, h4, by rw [hq a (Array.getElem?_eq_some_iff.mp h5).1 h10]; exact h5, h6, h7, h8, h9, h10⟩
theorem vx_L.narrow {C n d : String} {A B : Nat → Prop} {U : State} {H : Heap} (h : vx_L C n d A U H) (hAB : ∀ q, B q → A q) : vx_L C n d B U H := by
  obtain ⟨c, k, i, f, a, cell, h1, h2, h3, h4, h5, h6, h7, h8, h9, h10⟩ := h
  exact ⟨c, k, i, f, a, cell, h1, h2, h3, h4, h5, h6, h7, h8, h9, fun z => h10 (hAB _ z)⟩
theorem vx_L.word {C n d : String} {A : Nat → Prop} {s : State} {args : Array Value} (h : vx_L C n d A s s.heap) : (Cond.laysStatic C n d).before args s = true := by
  obtain ⟨c, k, i, f, a, cell, h1, h2, h3, h4, h5, h6, h7, h8, h9, -⟩ := h
  show (Cond.laysStatic C n d).holds args s none s [] = true
  exact Cond.laysStatic_of h1 h2 h3 h4 h5 h6 h7 h8 h9
/-- .. and what it holds: null or some reference -/
def vx_Zq (C n d : String) (A : Nat → Prop) (U : State) (H : Heap) : Prop := va_Zq C n d A U H ∧ vx_L C n d A U H
theorem vx_Zq.moved {C n d : String} {A : Nat → Prop} {u U : State} {H : Heap} (hvm : u.vm.Alike U.vm) (h : vx_Zq C n d A u H) : vx_Zq C n d A U H := ⟨va_Zq.moved hvm h.1, vx_L.moved hvm h.2⟩
theorem vx_Zq.kept {C n d : String} {A : Nat → Prop} {U : State} {H H1 : Heap} (h : vx_Zq C n d A U H) (hq : ∀ a : Nat, a < H.size → ¬ A a → H1[a]? = H[a]?) : vx_Zq C n d A U H1 := ⟨va_Zq.kept h.1 hq, vx_L.kept h.2 hq⟩
theorem vx_Zq.narrow {C n d : String} {A B : Nat → Prop} {U : State} {H : Heap} (h : vx_Zq C n d A U H) (hAB : ∀ q, B q → A q) : vx_Zq C n d B U H := ⟨va_Zq.narrow h.1 hAB, vx_L.narrow h.2 hAB⟩
theorem vx_Zqof {args : Array Value} {s : State} {C n d : String} {A : Nat → Prop} (hl : (Cond.laysStatic C n d).before args s = true) (hini : (Cond.initialized C).before args s = true) (h : (Cond.isRef (.static C n d)).before args s = true) (hA : ∀ a : Nat, a < s.heap.size → ¬ A a) : vx_Zq C n d A s s.heap := by
  refine ⟨va_Zqof hl hini h hA, ?_⟩
  obtain ⟨c, k, i, f, a, cell, h1, h2, h3, h4, h5, h6, h7, h8, h9⟩ := Cond.laysStatic_spec hl
  exact ⟨c, k, i, f, a, cell, h1, h2, h3, h4, h5, h6, h7, h8, h9, hA a (Array.getElem?_eq_some_iff.mp h5).1⟩
theorem vx_isRef {C n d : String} {v : Value} {A : Nat → Prop} {s : State} {args : Array Value} (h : va_Z C n d v A s s.heap) (hv : v.isRef = true) : (Cond.isRef (.static C n d)).before args s = true := by
  obtain ⟨cf, kf, fi, f, a, cell, h1, h2, h3, h4, h5, h6, h7, -⟩ := h
  have he : (Term.static C n d).eval args s none [] s = some v := by
    simp [Term.eval, State.fieldNamed?, h1, h2, h4, h5, h6, h7]
  simp only [Cond.before, Cond.holds, Cond.value, he]
  cases v <;> simp_all [Value.isRef]
theorem vx_isRefq {C n d : String} {A : Nat → Prop} {s : State} {args : Array Value} (h : va_Zq C n d A s s.heap) : (Cond.isRef (.static C n d)).before args s = true := by
  rcases h with h | ⟨t, h⟩
  · exact vx_isRef h rfl
  · exact vx_isRef h rfl
/-- the same frame, seen from here: as if the method were called anew in this heap -/
theorem vx_rebase {T : State} (X : Stand p l e R s m args below meth c T locs cells slots) {R' : Room} (hf : R'.frames ≤ R.frames) (hl : R'.locals ≤ R.locals) (hc : cells + R'.cells ≤ R.cells) (hs : slots + R'.slots ≤ R.slots) :
    Stand p l e R' ((T.setVm s.vm).setFrames (.invoking m args :: below)) m args below meth c T [] 0 0 := by
  have htop : (T.setVm s.vm).topJava?.isSome := X.here.top
  have hF : ((T.setVm s.vm).setFrames (.invoking m args :: below)).frames = .invoking m args :: below := State.frames_setFrames _ (State.cur_lt_of_top htop)
  obtain ⟨g₀, hg0⟩ := Option.isSome_iff_exists.mp htop
  obtain ⟨r, hr⟩ := State.topJava?_eq_some.mp hg0
  have hl9 : e.platform.stackLimits (T.setVm s.vm).me = e.platform.stackLimits s.me := X.limits
  have hb9 : (T.setVm s.vm).me.stackBytes = s.me.stackBytes := X.bytes
  refine ⟨X.admits, X.cas, X.clock, hF, ?_, X.hears, X.method, X.code, X.here, X.tail, X.warmed, ?_, ?_, ?_⟩
  · have h := X.room
    have hU : ((T.setVm s.vm).setFrames (.invoking m args :: below)).localsInUse = s.localsInUse := by
      rw [State.localsInUse_invoking hF (meth := meth) (c := c) X.method X.code, State.localsInUse_invoking X.frames X.method X.code]
    simp only [State.hasRoom, Bool.and_eq_true, decide_eq_true_eq] at h ⊢
    obtain ⟨⟨⟨⟨h1, h2, h3, h4, h5, h6⟩, h7⟩, h8⟩, h9⟩ := h
    rw [X.frames, List.length_cons] at h2 h3
    have q1 := X.heapSize
    have q2 := X.used
    simp only [hF, hU, List.length_cons, State.stackLimits_setFrames, State.stackBytes_setFrames, hl9, hb9]
    refine ⟨⟨⟨⟨by omega, by omega, by omega, by omega, by omega, h6⟩, ?_⟩, ?_⟩, X.book⟩
    · show T.heap.size + R'.cells ≤ e.platform.maxCells
      omega
    · show T.slotsUsed + R'.slots ≤ e.platform.maxSlots
      omega
  · rw [State.stackLimits_setFrames]; rfl
  · rw [State.stackBytes_setFrames]; rfl
  · refine ⟨?_, Nat.le_refl _, Nat.le_refl _, ?_, ?_, fun a c9 h9 => ⟨c9, h9, rfl, rfl, fun _ _ => rfl⟩⟩
    · obtain ⟨t, ht, -⟩ := State.frames_cons hr
      show T.setVm s.vm = { ((T.setVm s.vm).setFrames (.invoking m args :: below)).setFrames (T.setVm s.vm).frames with heap := T.heap, slotsUsed := T.slotsUsed }
      rw [State.setFrames_setFrames, State.setFrames_self ht]
      rfl
    · show T.slotsUsed = T.slotsUsed + ((T.heap.toList.drop T.heap.size).map (·.slots.size)).sum
      rw [List.drop_eq_nil_of_le (Nat.le_of_eq Array.length_toList)]
      rfl
    · show ((T.heap.toList.drop T.heap.size).map (·.slots.size)).sum ≤ 0
      rw [List.drop_eq_nil_of_le (Nat.le_of_eq Array.length_toList)]
      exact Nat.le_refl _
/-- 'throw new E()': new; dup; invokespecial; athrow -/
theorem vx_throw0 {cc : ByteArray} {pc : Nat} (hexec : p.tables.exec = Jvm.exec) (hb : c.code = cc) (hl : l.stackTraces = false) {own cls : String} {names : List String} {ik ic mc ms : Nat} {A : Nat → Prop}
    (hown : s.vm.findClass own = some m.cls) (hcls : fit cls = true) (hnames : ∀ n ∈ names, fit n = true)
    (hk : (Cond.classLink own ik cls).before args s = true) (hini : (Cond.initialized cls).before args s = true) (hat : ∀ w ∈ vx_at0 own ic cls names, w.before args s = true)
    (hgood : ∀ w ∈ Cond.classLink own ik cls :: Cond.initialized cls :: vx_at0 own ic cls names, vx_ot w = true)
    (hU : vx_Zq tN "UNASSIGNED_STACK" steD A s s.heap) (hN : vx_Zq tN "SUPPRESSED_SENTINEL" listD A s s.heap) (hS : va_S A s.heap H locs) (hsize : ls.size = c.maxLocals)
    (d0 : decode cc pc = .ok (.new ik, 3)) (d3 : decode cc (pc + 3) = .ok (.dup, 1)) (d4 : decode cc (pc + 4) = .ok (.invokespecial ic, 3)) (d7 : decode cc (pc + 7) = .ok (.athrow, 1))
    (hout : ∀ x ∈ c.exceptionTable.toList, covers x (pc + 7) = false)
    (hRframes : names.length + 3 < R.frames) (hRlocals : (rest.map fun v => v.category).sum + (13 * (names.length + 1) + 42) ≤ R.locals) (hRcells : cells + 1 ≤ R.cells) (hRslots : slots + 6 ≤ R.slots) (hlocks : meth.locks = false)
    (hx : ∀ t : State, s.vm.Alike t.vm → H.size ≤ t.heap.size → (∀ q : Nat, q < H.size → t.heap[q]? = H[q]?) → XC cls s t)
    (hf : ∀ z ∈ locs, free z.base) (hc : cells + 1 ≤ mc) (hs : slots + 6 ≤ ms) :
    W p l e R s m args below meth c H locs cells slots (vx_MQ below Qc XC args s mc ms free) (F0 m pc ls rest) := by
  intro T hT X
  have htr : e.platform.stackTraces = false := (show e.platform.stackTraces = l.stackTraces by rw [X.admits.platform]).trans hl
  have Y := vx_rebase X (R' := { frames := R.frames, locals := R.locals, cells := 1, slots := 6 }) (Nat.le_refl _) (Nat.le_refl _) hRcells hRslots
  obtain ⟨s', hA⟩ : ∃ z, z = (T.setVm s.vm).setFrames (.invoking m args :: below) := ⟨_, rfl⟩
  rw [← hA] at Y
  have hvm : s'.vm = s.vm := by rw [hA]; rfl
  have hhp : s'.heap = H := by rw [hA]; exact hT
  have hW0 : s.WarmedH s'.vm := by rw [hvm]; exact State.WarmedH.refl s
  have hat' : ∀ w ∈ vx_at0 own ic cls names, w.before args s' = true := fun w hw => vx_ot_at hW0 hvm.symm (hgood w (List.mem_cons_of_mem _ (List.mem_cons_of_mem _ hw))) (hat w hw)
  have hk' : (Cond.classLink own ik cls).before args s' = true := vx_ot_at hW0 hvm.symm (hgood _ List.mem_cons_self) hk
  have hini' : (Cond.initialized cls).before args s' = true := vx_ot_at hW0 hvm.symm (hgood _ (List.mem_cons_of_mem _ List.mem_cons_self)) hini
  have hU' : vx_Zq tN "UNASSIGNED_STACK" steD A s' s'.heap := by rw [hhp]; exact vx_Zq.moved hW0.alike (hU.kept hS.2.1)
  have hN' : vx_Zq tN "SUPPRESSED_SENTINEL" listD A s' s'.heap := by rw [hhp]; exact vx_Zq.moved hW0.alike (hN.kept hS.2.1)
  have h : ∀ w ∈ ownAtoms0 own ic cls names, w.before args s' = true := vx_own hat' (vx_isRefq hU'.1) (vx_isRefq hN'.1) hU'.2.word hN'.2.word
  have hown' : s'.vm.findClass own = some m.cls := by rw [hvm]; exact hown
  have hins : (Cond.instantiable cls 6).before args s' = true := h _ (by simp [ownAtoms0])
  obtain ⟨vm₁, cX, kX, hfX, hkX, -, -, X₁, st1⟩ := Y.newCold hexec (own := own) (C := cls) (index := ik) (n := 6) hown' hk' hins hini'
    (g := F0 m pc ls rest) rfl (by rw [hb]; exact d0) (Nat.le_refl _) (Nat.le_refl _)
  generalize hT1 : (T.setVm vm₁).pushCell { cls := cX, slots := kX.instanceTypes.map defaultValue, vm := .none } = T1 at X₁ st1
  have hcat : (Value.ref T.heap.size).category = 1 := rfl
  have hcellA : T1.heap[T.heap.size]? = some (freshCell cX kX) := by rw [← hT1]; exact State.heap_pushCell_size _ _
  have d3' : decode c.code (pc + 3) = .ok (.dup, 1) := by rw [hb]; exact d3
  obtain ⟨U, hsteps, hrun, hend, hW, hsame, ce, hce, hO⟩ := X₁.ctorThrow0 hexec htr (own := own) (cls := cls) (names := names) (ic := ic) hown' hcls hnames h (fun x hx => nomatch hx) hfX hkX hcellA (by rw [hhp, hT]; exact Nat.le_refl _)
    (g := { method := m, pc := pc + 4, locals := ls, stack := .ref T.heap.size :: .ref T.heap.size :: rest, locked := none }) rfl hsize rfl rfl (rest := rest) rfl
    (by rw [hb]; exact d4) (by rw [hb]; exact d7) hout hRframes (by simp only [List.map_cons, List.sum_cons, hcat]; omega) hlocks
  obtain ⟨f1, f2⟩ := vx_frame hsame
  rw [hhp] at f1 f2
  have hWs : s.WarmedH U.vm := State.WarmedH.trans hW0 hW
  have hcl : s.vm.findClass cls = some ce.cls := by
    have h9 := hO.cls
    rw [hvm] at h9
    exact h9
  have hall : s.sameButNew ({ U with vm := s.vm } : State) locs mc ms := by
    subst hA
    obtain ⟨e1, e2⟩ := hsame
    rw [State.setFrames_setFrames] at e1
    have h2 : (T.setVm s.vm).sameButNew ({ U with vm := s.vm } : State) [] (0 + 1) (0 + 6) := ⟨e1, e2⟩
    have h3 := X.same.trans h2
    rw [List.append_nil] at h3
    exact h3.mono hc hs
  refine ⟨U, ?_, .threw T.heap.size, hrun, hend, Or.inr ⟨T.heap.size, rfl, cls, ce, locs, hx U hWs.alike f1 (fun q hq => f2 q hq (fun z hz => nomatch hz)), hce, hO.vm, hcl, hWs, hall, hf⟩⟩
  refine st1 _ ?_
  show Steps p.tables e below (T1.setTop { method := m, pc := pc + 3, locals := ls, stack := .ref T.heap.size :: rest, locked := none }) _
  jvm_step X₁.here [X₁.here.top, hexec, d3', Value.category]
  exact hsteps
/-- 'throw new E("text")': new; dup; ldc; invokespecial; athrow -/
theorem vx_throwS {cc : ByteArray} {pc : Nat} (hexec : p.tables.exec = Jvm.exec) (hb : c.code = cc) (hl : l.stackTraces = false) {own cls text : String} {names : List String} {ik is ic mc ms sa : Nat} {A : Nat → Prop}
    (hown : s.vm.findClass own = some m.cls) (hcls : fit cls = true) (hnames : ∀ n ∈ names, fit n = true)
    (hk : (Cond.classLink own ik cls).before args s = true) (hini : (Cond.initialized cls).before args s = true) (hstr : vk_R own is text sa s) (hat : ∀ w ∈ vx_atS own ic cls names, w.before args s = true)
    (hgood : ∀ w ∈ Cond.classLink own ik cls :: Cond.initialized cls :: vx_atS own ic cls names, vx_ot w = true)
    (hU : vx_Zq tN "UNASSIGNED_STACK" steD A s s.heap) (hN : vx_Zq tN "SUPPRESSED_SENTINEL" listD A s s.heap) (hS : va_S A s.heap H locs) (hsize : ls.size = c.maxLocals)
    (d0 : decode cc pc = .ok (.new ik, 3)) (d3 : decode cc (pc + 3) = .ok (.dup, 1)) (d4 : decode cc (pc + 4) = .ok (.ldc is, 2)) (d6 : decode cc (pc + 6) = .ok (.invokespecial ic, 3)) (d9 : decode cc (pc + 9) = .ok (.athrow, 1))
    (hout : ∀ x ∈ c.exceptionTable.toList, covers x (pc + 9) = false)
    (hRframes : names.length + 3 < R.frames) (hRlocals : (rest.map fun v => v.category).sum + (13 * (names.length + 1) + 43) ≤ R.locals) (hRcells : cells + 1 ≤ R.cells) (hRslots : slots + 6 ≤ R.slots) (hlocks : meth.locks = false)
    (hx : ∀ t : State, s.vm.Alike t.vm → H.size ≤ t.heap.size → (∀ q : Nat, q < H.size → t.heap[q]? = H[q]?) → XC cls s t)
    (hf : ∀ z ∈ locs, free z.base) (hc : cells + 1 ≤ mc) (hs : slots + 6 ≤ ms) :
    W p l e R s m args below meth c H locs cells slots (vx_MQ below Qc XC args s mc ms free) (F0 m pc ls rest) := by
  intro T hT X
  have htr : e.platform.stackTraces = false := (show e.platform.stackTraces = l.stackTraces by rw [X.admits.platform]).trans hl
  have Y := vx_rebase X (R' := { frames := R.frames, locals := R.locals, cells := 1, slots := 6 }) (Nat.le_refl _) (Nat.le_refl _) hRcells hRslots
  obtain ⟨s', hA⟩ : ∃ z, z = (T.setVm s.vm).setFrames (.invoking m args :: below) := ⟨_, rfl⟩
  rw [← hA] at Y
  have hvm : s'.vm = s.vm := by rw [hA]; rfl
  have hhp : s'.heap = H := by rw [hA]; exact hT
  have hW0 : s.WarmedH s'.vm := by rw [hvm]; exact State.WarmedH.refl s
  have hat' : ∀ w ∈ vx_atS own ic cls names, w.before args s' = true := fun w hw => vx_ot_at hW0 hvm.symm (hgood w (List.mem_cons_of_mem _ (List.mem_cons_of_mem _ hw))) (hat w hw)
  have hk' : (Cond.classLink own ik cls).before args s' = true := vx_ot_at hW0 hvm.symm (hgood _ List.mem_cons_self) hk
  have hini' : (Cond.initialized cls).before args s' = true := vx_ot_at hW0 hvm.symm (hgood _ (List.mem_cons_of_mem _ List.mem_cons_self)) hini
  have hU' : vx_Zq tN "UNASSIGNED_STACK" steD A s' s'.heap := by rw [hhp]; exact vx_Zq.moved hW0.alike (hU.kept hS.2.1)
  have hN' : vx_Zq tN "SUPPRESSED_SENTINEL" listD A s' s'.heap := by rw [hhp]; exact vx_Zq.moved hW0.alike (hN.kept hS.2.1)
  have h : ∀ w ∈ ownAtoms own ic cls names, w.before args s' = true := vx_own hat' (vx_isRefq hU'.1) (vx_isRefq hN'.1) hU'.2.word hN'.2.word
  have hown' : s'.vm.findClass own = some m.cls := by rw [hvm]; exact hown
  have hins : (Cond.instantiable cls 6).before args s' = true := h _ (by simp [ownAtoms])
  obtain ⟨vm₁, cX, kX, hfX, hkX, -, -, X₁, st1⟩ := Y.newCold hexec (own := own) (C := cls) (index := ik) (n := 6) hown' hk' hins hini'
    (g := F0 m pc ls rest) rfl (by rw [hb]; exact d0) (Nat.le_refl _) (Nat.le_refl _)
  generalize hT1 : (T.setVm vm₁).pushCell { cls := cX, slots := kX.instanceTypes.map defaultValue, vm := .none } = T1 at X₁ st1
  have hcat : (Value.ref T.heap.size).category = 1 := rfl
  have hcellA : T1.heap[T.heap.size]? = some (freshCell cX kX) := by rw [← hT1]; exact State.heap_pushCell_size _ _
  have d3' : decode c.code (pc + 3) = .ok (.dup, 1) := by rw [hb]; exact d3
  have d4' : decode c.code (pc + 4) = .ok (.ldc is, 2) := by rw [hb]; exact d4
  have hstr' : vk_R own is text sa s' := vk_R.warm hW0 hstr
  obtain ⟨U, hsteps, hrun, hend, hW, hsame, ce, hce, hO⟩ := X₁.ctorThrowS hexec htr (own := own) (cls := cls) (names := names) (ic := ic) hown' hcls hnames h (fun x hx => nomatch hx) hfX hkX hcellA (by rw [hhp, hT]; exact Nat.le_refl _) (msg := .ref sa) rfl
    (g := { method := m, pc := pc + 6, locals := ls, stack := .ref sa :: .ref T.heap.size :: .ref T.heap.size :: rest, locked := none }) rfl hsize rfl rfl (rest := rest) rfl
    (by rw [hb]; exact d6) (by rw [hb]; exact d9) hout hRframes (by simp only [List.map_cons, List.sum_cons, hcat]; omega) hlocks
  obtain ⟨f1, f2⟩ := vx_frame hsame
  rw [hhp] at f1 f2
  have hWs : s.WarmedH U.vm := State.WarmedH.trans hW0 hW
  have hcl : s.vm.findClass cls = some ce.cls := by
    have h9 := hO.cls
    rw [hvm] at h9
    exact h9
  have hall : s.sameButNew ({ U with vm := s.vm } : State) locs mc ms := by
    subst hA
    obtain ⟨e1, e2⟩ := hsame
    rw [State.setFrames_setFrames] at e1
    have h2 : (T.setVm s.vm).sameButNew ({ U with vm := s.vm } : State) [] (0 + 1) (0 + 6) := ⟨e1, e2⟩
    have h3 := X.same.trans h2
    rw [List.append_nil] at h3
    exact h3.mono hc hs
  refine ⟨U, ?_, .threw T.heap.size, hrun, hend, Or.inr ⟨T.heap.size, rfl, cls, ce, locs, hx U hWs.alike f1 (fun q hq => f2 q hq (fun z hz => nomatch hz)), hce, hO.vm, hcl, hWs, hall, hf⟩⟩
  refine st1 _ ?_
  show Steps p.tables e below (T1.setTop { method := m, pc := pc + 3, locals := ls, stack := .ref T.heap.size :: rest, locked := none }) _
  jvm_step X₁.here [X₁.here.top, hexec, d3', Value.category]
  exact X₁.ldcString hexec (own := own) (text := text) (index := is) (a := sa) hown' hstr'.1 hstr'.2
    (g := { method := m, pc := pc + 4, locals := ls, stack := .ref T.heap.size :: .ref T.heap.size :: rest, locked := none }) rfl d4' _ hsteps
/-- 'throw new E("text")', the text by a wide index -/
theorem vx_throwSW {cc : ByteArray} {pc : Nat} (hexec : p.tables.exec = Jvm.exec) (hb : c.code = cc) (hl : l.stackTraces = false) {own cls text : String} {names : List String} {ik is ic mc ms sa : Nat} {A : Nat → Prop}
    (hown : s.vm.findClass own = some m.cls) (hcls : fit cls = true) (hnames : ∀ n ∈ names, fit n = true)
    (hk : (Cond.classLink own ik cls).before args s = true) (hini : (Cond.initialized cls).before args s = true) (hstr : vk_R own is text sa s) (hat : ∀ w ∈ vx_atS own ic cls names, w.before args s = true)
    (hgood : ∀ w ∈ Cond.classLink own ik cls :: Cond.initialized cls :: vx_atS own ic cls names, vx_ot w = true)
    (hU : vx_Zq tN "UNASSIGNED_STACK" steD A s s.heap) (hN : vx_Zq tN "SUPPRESSED_SENTINEL" listD A s s.heap) (hS : va_S A s.heap H locs) (hsize : ls.size = c.maxLocals)
    (d0 : decode cc pc = .ok (.new ik, 3)) (d3 : decode cc (pc + 3) = .ok (.dup, 1)) (d4 : decode cc (pc + 4) = .ok (.ldc_w is, 3)) (d7 : decode cc (pc + 7) = .ok (.invokespecial ic, 3)) (d10 : decode cc (pc + 10) = .ok (.athrow, 1))
    (hout : ∀ x ∈ c.exceptionTable.toList, covers x (pc + 10) = false)
    (hRframes : names.length + 3 < R.frames) (hRlocals : (rest.map fun v => v.category).sum + (13 * (names.length + 1) + 43) ≤ R.locals) (hRcells : cells + 1 ≤ R.cells) (hRslots : slots + 6 ≤ R.slots) (hlocks : meth.locks = false)
    (hx : ∀ t : State, s.vm.Alike t.vm → H.size ≤ t.heap.size → (∀ q : Nat, q < H.size → t.heap[q]? = H[q]?) → XC cls s t)
    (hf : ∀ z ∈ locs, free z.base) (hc : cells + 1 ≤ mc) (hs : slots + 6 ≤ ms) :
    W p l e R s m args below meth c H locs cells slots (vx_MQ below Qc XC args s mc ms free) (F0 m pc ls rest) := by
  intro T hT X
  have htr : e.platform.stackTraces = false := (show e.platform.stackTraces = l.stackTraces by rw [X.admits.platform]).trans hl
  have Y := vx_rebase X (R' := { frames := R.frames, locals := R.locals, cells := 1, slots := 6 }) (Nat.le_refl _) (Nat.le_refl _) hRcells hRslots
  obtain ⟨s', hA⟩ : ∃ z, z = (T.setVm s.vm).setFrames (.invoking m args :: below) := ⟨_, rfl⟩
  rw [← hA] at Y
  have hvm : s'.vm = s.vm := by rw [hA]; rfl
  have hhp : s'.heap = H := by rw [hA]; exact hT
  have hW0 : s.WarmedH s'.vm := by rw [hvm]; exact State.WarmedH.refl s
  have hat' : ∀ w ∈ vx_atS own ic cls names, w.before args s' = true := fun w hw => vx_ot_at hW0 hvm.symm (hgood w (List.mem_cons_of_mem _ (List.mem_cons_of_mem _ hw))) (hat w hw)
  have hk' : (Cond.classLink own ik cls).before args s' = true := vx_ot_at hW0 hvm.symm (hgood _ List.mem_cons_self) hk
  have hini' : (Cond.initialized cls).before args s' = true := vx_ot_at hW0 hvm.symm (hgood _ (List.mem_cons_of_mem _ List.mem_cons_self)) hini
  have hU' : vx_Zq tN "UNASSIGNED_STACK" steD A s' s'.heap := by rw [hhp]; exact vx_Zq.moved hW0.alike (hU.kept hS.2.1)
  have hN' : vx_Zq tN "SUPPRESSED_SENTINEL" listD A s' s'.heap := by rw [hhp]; exact vx_Zq.moved hW0.alike (hN.kept hS.2.1)
  have h : ∀ w ∈ ownAtoms own ic cls names, w.before args s' = true := vx_own hat' (vx_isRefq hU'.1) (vx_isRefq hN'.1) hU'.2.word hN'.2.word
  have hown' : s'.vm.findClass own = some m.cls := by rw [hvm]; exact hown
  have hins : (Cond.instantiable cls 6).before args s' = true := h _ (by simp [ownAtoms])
  obtain ⟨vm₁, cX, kX, hfX, hkX, -, -, X₁, st1⟩ := Y.newCold hexec (own := own) (C := cls) (index := ik) (n := 6) hown' hk' hins hini'
    (g := F0 m pc ls rest) rfl (by rw [hb]; exact d0) (Nat.le_refl _) (Nat.le_refl _)
  generalize hT1 : (T.setVm vm₁).pushCell { cls := cX, slots := kX.instanceTypes.map defaultValue, vm := .none } = T1 at X₁ st1
  have hcat : (Value.ref T.heap.size).category = 1 := rfl
  have hcellA : T1.heap[T.heap.size]? = some (freshCell cX kX) := by rw [← hT1]; exact State.heap_pushCell_size _ _
  have d3' : decode c.code (pc + 3) = .ok (.dup, 1) := by rw [hb]; exact d3
  have d4' : decode c.code (pc + 4) = .ok (.ldc_w is, 3) := by rw [hb]; exact d4
  have hstr' : vk_R own is text sa s' := vk_R.warm hW0 hstr
  obtain ⟨U, hsteps, hrun, hend, hW, hsame, ce, hce, hO⟩ := X₁.ctorThrowS hexec htr (own := own) (cls := cls) (names := names) (ic := ic) hown' hcls hnames h (fun x hx => nomatch hx) hfX hkX hcellA (by rw [hhp, hT]; exact Nat.le_refl _) (msg := .ref sa) rfl
    (g := { method := m, pc := pc + 7, locals := ls, stack := .ref sa :: .ref T.heap.size :: .ref T.heap.size :: rest, locked := none }) rfl hsize rfl rfl (rest := rest) rfl
    (by rw [hb]; exact d7) (by rw [hb]; exact d10) hout hRframes (by simp only [List.map_cons, List.sum_cons, hcat]; omega) hlocks
  obtain ⟨f1, f2⟩ := vx_frame hsame
  rw [hhp] at f1 f2
  have hWs : s.WarmedH U.vm := State.WarmedH.trans hW0 hW
  have hcl : s.vm.findClass cls = some ce.cls := by
    have h9 := hO.cls
    rw [hvm] at h9
    exact h9
  have hall : s.sameButNew ({ U with vm := s.vm } : State) locs mc ms := by
    subst hA
    obtain ⟨e1, e2⟩ := hsame
    rw [State.setFrames_setFrames] at e1
    have h2 : (T.setVm s.vm).sameButNew ({ U with vm := s.vm } : State) [] (0 + 1) (0 + 6) := ⟨e1, e2⟩
    have h3 := X.same.trans h2
    rw [List.append_nil] at h3
    exact h3.mono hc hs
  refine ⟨U, ?_, .threw T.heap.size, hrun, hend, Or.inr ⟨T.heap.size, rfl, cls, ce, locs, hx U hWs.alike f1 (fun q hq => f2 q hq (fun z hz => nomatch hz)), hce, hO.vm, hcl, hWs, hall, hf⟩⟩
  refine st1 _ ?_
  show Steps p.tables e below (T1.setTop { method := m, pc := pc + 3, locals := ls, stack := .ref T.heap.size :: rest, locked := none }) _
  jvm_step X₁.here [X₁.here.top, hexec, d3', Value.category]
  exact X₁.ldcStringW hexec (own := own) (text := text) (index := is) (a := sa) hown' hstr'.1 hstr'.2
    (g := { method := m, pc := pc + 4, locals := ls, stack := .ref T.heap.size :: .ref T.heap.size :: rest, locked := none }) rfl d4' _ hsteps
end Ends
section Bodies
variable {l : Launch}
theorem vx_ofW {y : MethodName} {ws ws' : List Cond} {rm : Room} {Pc : Array Value → State → Prop} {Qc : Array Value → State → Outcome → State → Prop} {XC : String → State → State → Prop} {mc ms : Nat} {free : Addr → Prop} {cc : ByteArray} {maxL : Nat} {ret : Option FieldType}
    (hy : plainName y.cls = true) (hw : ws = Cond.code y cc maxL ret :: ws')
    (body : ∀ p e s m args below meth c s₁, BodyLoose p l y (headSpec ws rm) cc maxL ret e s m args below meth c s₁ → c.maxLocals = maxL → (∀ x ∈ c.exceptionTable.toList, False) → Pc args s →
      W p l e (headSpec ws rm).room s m args below meth c s.heap [] 0 0 (vx_MQ below Qc XC args s mc ms free) (entryFrame m args maxL)) : vx_Met l y ws rm Pc Qc XC mc ms free := by
  refine MetFree.of_bodyS (code := cc) (maxLocals := maxL) (ret := ret) hy ?_ ?_
  · intro args s m h hn
    obtain ⟨meth, c, h1, h2, h3, h4, h5, h6, -, -⟩ := Cond.code_spec hn (atoms_spec (ws := ws) h _ (by rw [hw]; exact List.mem_cons_self))
    exact ⟨meth, c, h1, h2, h3, h4, h5, h6⟩
  · intro p e s m args below meth c s₁ B hml hP _
    have hh0 : s₁.heap = s.heap := by rw [B.state]; rfl
    have ht : ∀ x ∈ c.exceptionTable.toList, False := by
      obtain ⟨meth9, c9, h1, h2, -, -, -, -, h7, -⟩ := Cond.code_spec B.named (atoms_spec (ws := ws) B.pre _ (by rw [hw]; exact List.mem_cons_self))
      cases Option.some.inj (h1.symm.trans B.method)
      cases Option.some.inj (h2.symm.trans (Stand.of_body B).code)
      intro x hx
      rw [Array.isEmpty_iff.mp h7] at hx
      cases hx
    obtain ⟨t, a1, o, b1, b2, b3⟩ := body p e s m args below meth c s₁ B hml ht hP s₁ hh0 (Stand.of_body B)
    exact ⟨t, o, a1, b1, b2, b3⟩
/-- the table of a body with handlers -/
theorem vx_table {p : Program} {x y : MethodName} {S : Spec} {cc bytes : ByteArray} {maxL maxL' : Nat} {ret ret' : Option FieldType} {e : Env} {s s₁ : State} {m : MethodId} {args : Array Value} {below : List Frame} {meth : Method} {c : Code} {hh : List (Nat × Nat × Nat × Nat)}
    (B : BodyLoose p l y S cc maxL ret e s m args below meth c s₁) (h : (Cond.codeWith y bytes maxL' ret' hh).before args s = true) : c.exceptionTable.toList = tableOf hh := by
  obtain ⟨m9, meth9, c9, hn9, h1, h2, -, -, h6, -⟩ := Cond.codeWith_spec h
  cases Option.some.inj (hn9.symm.trans B.named)
  cases Option.some.inj (h1.symm.trans B.method)
  cases Option.some.inj (h2.symm.trans (Stand.of_body B).code)
  rw [← h6, table_eq]
end Bodies
end VXA
/-! ===== END ===== -/
/-! ===== BEGIN a static call of a method with an exception table ===== -/
section VXS
variable {p : Program} {l : Launch} {e : Env} {R : Room} {s : State} {m : MethodId} {args : Array Value} {below : List Frame} {meth : Method} {c : Code} {T : State} {H : Heap} {locs : List Loc} {cells slots : Nat}
abbrev vx_CSW (R : Room) (s : State) (args : Array Value) (own : String) (index : Nat) (y : MethodName) (bytes : ByteArray) (maxL : Nat) (ret : Option FieldType) (hh : List (Nat × Nat × Nat × Nat)) (ws : List Cond) (rm : Room) (mc ms n : Nat) : Prop :=
  (rm.cells = mc ∧ rm.slots = ms ∧ rm.frames + 1 ≤ R.frames ∧ 8 + (maxL + 11) + rm.locals ≤ R.locals ∧ (∀ w ∈ ws, ∀ (a' : Array Value) (U : State), s.WarmedH U.vm → w.before a' U = true) ∧ Cond.codeWith y bytes maxL ret hh ∈ ws) ∧
  (Cond.codeWith y bytes maxL ret hh).before args s = true ∧ (Cond.initialized y.cls).before args s = true ∧ (y.cls ≠ "java/lang/invoke/MethodHandle" ∧ y.cls ≠ "java/lang/invoke/VarHandle") ∧
  (∀ sig, parseMethodDescriptor y.desc = some sig → n = sig.parameters.length) ∧ (Cond.methodLink own index y).before args s = true ∧ (Cond.static y).before args s = true
theorem vx_cwSW {own : String} {index maxL mc ms : Nat} {y : MethodName} {bytes : ByteArray} {ret : Option FieldType} {hh : List (Nat × Nat × Nat × Nat)} {Ts ws ws' : List Cond} {rm : Room} (n : Nat) (ht : ∀ w ∈ Ts, w.before args s = true) (hT : GoodIn Ts (va_wsS own index y ws)) (hw : ws = Cond.codeWith y bytes maxL ret hh :: ws') (hrc : rm.cells = mc) (hrs : rm.slots = ms)
    (hd : y.cls ≠ "java/lang/invoke/MethodHandle" ∧ y.cls ≠ "java/lang/invoke/VarHandle" ∧ (parseMethodDescriptor y.desc).map (fun d => d.parameters.length) = some n) (hR : rm.frames + 1 ≤ R.frames ∧ 8 + (maxL + 11) + rm.locals ≤ R.locals) :
    vx_CSW R s args own index y bytes maxL ret hh ws rm mc ms n := by
  have ok : ∀ w ∈ va_wsS own index y ws, w.before args s = true := fun w h => ht w (hT w h).1
  have hG : GoodIn Ts ws := fun w h => hT w (by unfold va_wsS; exact List.mem_append_right _ h)
  have hc : Cond.codeWith y bytes maxL ret hh ∈ ws := by rw [hw]; exact List.mem_cons_self
  refine ⟨⟨hrc, hrs, hR.1, hR.2, pay_in ht hG, hc⟩, ht _ (hG _ hc).1, ok _ (by simp [va_wsS]), ⟨hd.1, hd.2.1⟩, fun sig h => ?_, ok _ (by simp [va_wsS]), ok _ (by simp [va_wsS])⟩
  have h2 := hd.2.2
  rw [h] at h2
  exact (Option.some.inj h2).symm
theorem vx_callSW (X : Stand p l e R s m args below meth c T locs cells slots) (hexec : p.tables.exec = Jvm.exec) {own : String} {index : Nat} {y : MethodName} {bytes : ByteArray} {maxL : Nat} {ret : Option FieldType} {hh : List (Nat × Nat × Nat × Nat)}
    (hown : s.vm.findClass own = some m.cls) (hlink : (Cond.methodLink own index y).before args s = true) (hstat : (Cond.static y).before args s = true) (hinit : (Cond.initialized y.cls).before args s = true)
    (hcode : (Cond.codeWith y bytes maxL ret hh).before args s = true) (hy : y.cls ≠ "java/lang/invoke/MethodHandle" ∧ y.cls ≠ "java/lang/invoke/VarHandle")
    {W9 : Nat} {Pre : Pt → Array Value → Prop} {Post : Pt → Array Value → Option Value → Pt → Prop} (hK : Back l R p e below s args y 3 W9 Pre Post)
    {g : JFrame} (hg : g.method = m) (hsize : g.locals.size = c.maxLocals) {argsL rest : List Value} (hlen : ∀ sig, parseMethodDescriptor y.desc = some sig → argsL.length = sig.parameters.length)
    (hstack : g.stack = argsL.reverse ++ rest) (hW : 2 * g.monitorRoom + (rest.map fun v => v.category).sum ≤ W9) (hdg : decode c.code g.pc = .ok (.invokestatic index, 3))
    (hpre : ∀ vm₁, s.WarmedH vm₁ → Pre ⟨T.setVm vm₁, locs, cells, slots⟩ argsL.toArray) :
    ∃ (v : Option Value) (vm₁ : Vm) (B : Pt), s.WarmedH vm₁ ∧ Stand p l e R s m args below meth c B.U B.locs B.cells B.slots ∧ Post ⟨T.setVm vm₁, locs, cells, slots⟩ argsL.toArray v B ∧
      ∀ target, Steps p.tables e below (B.U.setTop { g with pc := g.pc + 3, stack := v.toList ++ rest }) target → Steps p.tables e below (T.setTop g) target := by
  obtain ⟨mk, methM, cM, hnamed, hmethM, -, -, -, -, -, -, hsigM⟩ := Cond.codeWith_spec hcode
  have hstatic : methM.isStatic = true := Cond.static_spec hnamed hmethM hstat
  obtain ⟨kP, hkP, -⟩ := className_of_methodNamed hnamed
  have hinitP : kP.init = .initialized := Cond.initialized_spec (findClass_of_methodNamed hnamed) hkP hinit
  obtain ⟨vm₁, X₁, hstep₁⟩ := X.invokestatic hexec hown hlink hnamed hmethM hstatic hkP hinitP hy (g := g) hg (argsL := argsL) (rest := rest) (hlen _ hsigM) hstack hdg
  obtain ⟨v, B, X', hpost, hsteps⟩ := hK m meth c ⟨T.setVm vm₁, locs, cells, slots⟩ { g with stack := rest } (.invokestatic index) mk argsL.toArray X₁ hg hsize hdg hW (X₁.named hnamed) (hpre vm₁ X₁.warmed)
  exact ⟨v, vm₁, B, X₁.warmed, X', hpost, fun target h => hstep₁ _ fun acts => by rw [doInvoke_state]; exact hsteps.trans h⟩
theorem vx_runSW {y : MethodName} {bytes cc : ByteArray} {maxL nL mc ms n index : Nat} {ret : Option FieldType} {hh : List (Nat × Nat × Nat × Nat)} {ws : List Cond} {rm : Room} {Pc : Array Value → State → Prop} {Qc : Array Value → State → Outcome → State → Prop} {free : Addr → Prop} {Ts : List Cond} {own : String} {As rest : List Value} {g : JFrame}
    (S : CallFix p m c cc nL s args Ts own) (hM : Met l y ws rm Pc Qc mc ms free) (cw : vx_CSW R s args own index y bytes maxL ret hh ws rm mc ms n) (hp : PreS s H Pc As)
    (hg : g.method = m) (hn : As.length = n) (hsize : g.locals.size = nL) (hstack : g.stack = As.reverse ++ rest) (hW : 2 * g.monitorRoom + (rest.map fun v => v.category).sum ≤ 8) (hdg : decode cc g.pc = .ok (.invokestatic index, 3)) (hf : cells + mc ≤ R.cells ∧ slots + ms ≤ R.slots) :
    va_Run p l e R s m args below meth c H locs cells slots mc ms g rest (Qc As.toArray) (free) := by
  obtain ⟨⟨hrc, hrs, hfr, hlo, hws, hcw⟩, hcode, hini, hy, hlen, hl, hstt⟩ := cw
  have hK : Back l R p e below s args y 3 8 (PreOf R mc ms Pc) (PostOf Qc mc ms free) := va_backW (hh := hh) (bytes := bytes) (maxL := maxL) (ret := ret) hM hp.1 hrc hrs hfr hlo hws hcw (fun a' U hW => word_at hW (Or.inl (by first | rfl | simp [Cond.onTables, Cond.keeps, Cond.steady])) hini)
  obtain ⟨hx, hb, hml, ho, -⟩ := S
  intro T hT X
  obtain ⟨v, vm₁, ⟨U', l2, c2, s2⟩, hW₁, X', ⟨g', mk, t, L, e1, e2, hq, h1, hL, h2, h3⟩, st⟩ := vx_callSW X hx (hh := hh) (bytes := bytes) (maxL := maxL) (ret := ret) ho hl hstt hini hcode hy hK hg (hsize.trans hml.symm) (argsL := As) (rest := rest) (fun sig h => hn.trans (hlen sig h)) hstack hW (by rw [hb]; exact hdg)
    (fun vm₁ hW₁ => ⟨hf.1, hf.2, hp.2 (T.setVm vm₁) hT hW₁⟩)
  dsimp only [Pt.U, Pt.locs, Pt.cells, Pt.slots] at X' e1 e2 h1 h2 h3 st
  subst h1; subst h2; subst h3
  exact ⟨v, (T.setVm vm₁).calling g' mk As.toArray, t, U', L, hT, X', hL, e1, e2, hq, st⟩
/-- not caught here, past rows that name other classes: it goes on to the caller -/
theorem vx_outP {p : Program} {l : Launch} {e : Env} {R : Room} {s : State} {m : MethodId} {args : Array Value} {below : List Frame} {meth : Method} {c : Code} {H : Heap} {locs : List Loc} {cells slots : Nat} {free : Addr → Prop} {ls : Array Slot} {rest : List Value} {Qc : Array Value → State → Outcome → State → Prop} {XC : String → State → State → Prop}
    {pc : Nat} {own E : String} {ce : Cell} {q : Addr} {mc ms : Nat} (hown : s.vm.findClass own = some m.cls) (hlocks : meth.locks = false)
    (hpass : ∀ z ∈ c.exceptionTable.toList, covers z pc = false ∨ (z.catchType ≠ 0 ∧ ∃ nm : String, (Cond.classLink own z.catchType nm).before args s = true ∧ va_Nc E nm s)) (hcell : H[q]? = some ce) (hv : ce.vm = .none) (hcl : s.vm.findClass E = some ce.cls)
    (hx : ∀ t : State, t.heap = H → s.vm.Alike t.vm → XC E s t) (hf : ∀ z ∈ locs, free z.base) (hc : cells ≤ mc) (hs : slots ≤ ms) :
    vx_W p l e R s m args below meth c H locs cells slots (vx_MQ below Qc XC args s mc ms free) (F0 m pc ls rest) q := by
  intro T hT X
  have hpl : e.platform.magicAccessors = ({} : Platform).magicAccessors := by rw [X.admits.platform]
  obtain ⟨vm', hW', X', st⟩ := X.outThrough hlocks q (g := F0 m pc ls rest) rfl rfl rfl (cell := ce) (by rw [hT]; exact hcell) (by rw [hv]; rfl)
    (by obtain ⟨k9, h9, -⟩ := Vm.findClass_spec hcl; exact ⟨k9, h9⟩) (fun z hz => by
      rcases hpass z hz with h | ⟨hz0, nm, hl1, hn1⟩
      · exact Or.inl h
      · obtain ⟨c6, hc6, hcl6⟩ := Cond.classLink_spec hown hl1 e.platform hpl
        obtain ⟨a8, b8, h1, h2, h3⟩ := hn1
        cases Option.some.inj (h1.symm.trans hcl)
        cases Option.some.inj (h2.symm.trans hc6)
        exact Or.inr ⟨hz0, _, hcl6, h3⟩)
  obtain ⟨g₀, hfr⟩ := X'.frames_eq
  have hcell9 : ((T.setVm vm').setFrames (.throwing q :: below)).heap[q]? = some ce := by
    show T.heap[q]? = some ce
    rw [hT]; exact hcell
  have hend : Ended ((T.setVm vm').setFrames (.throwing q :: below)) below (.threw q) := State.frames_setFrames _ (State.cur_lt_of_frames hfr)
  refine ⟨(T.setVm vm').setFrames (.throwing q :: below), ?_, .threw q, X'.here.running, hend, Or.inr ⟨q, rfl, E, ce, locs, hx _ hT (X'.ends _).1.alike, hcell9, hv, hcl, (X'.ends _).1, (X'.ends _).2.mono hc hs, hf⟩⟩
  rw [X.pushThrowing_eq]
  exact st
/-- a thing of a world lies in the heap -/
theorem vx_lt {D : va_G} {cl : List vw_C} {ws : va_W} {H1 : Heap} (h : va_P D cl ws H1) {k : Nat} {q : Nat × va_E} (hk : ws[k]? = some q) : q.1 < H1.size := (h k q hk).lt
end VXS
/-! ===== END ===== -/
/-! ===== BEGIN methods with a table of their own: called by a name, returning or throwing ===== -/
section VXH
/-! vx_backW, vx_callVX, vx_callSX, vx_callVW, vx_runVW, vx_runVX, vx_runSX, vx_ofWH follow the same proofs as their sisters above (Free/Laws.lean, Shelf42/LK1.lean); vx_outP calls Shelf42/NT130.lean (outThrough). -/
section
variable {l : Launch} {R : Room} {p : Program} {e : Env} {below : List Frame} {s : State} {sargs : Array Value} {y : MethodName} {len W9 : Nat}
theorem vx_backW {ws : List Cond} {rm : Room} {Pc : Array Value → State → Prop} {Qc : Array Value → State → Outcome → State → Prop} {XC : String → State → State → Prop} {mc ms : Nat} {free : Addr → Prop} {bytes : ByteArray} {maxL : Nat} {ret : Option FieldType} {hh : List (Nat × Nat × Nat × Nat)}
    (hM : vx_Met l y ws rm Pc Qc XC mc ms free) (hblind : FrameBlind Pc) (hrc : rm.cells = mc) (hrs : rm.slots = ms)
    (hframes : rm.frames + 1 ≤ R.frames) (hlocals : W9 + (maxL + 11) + rm.locals ≤ R.locals)
    (hws : ∀ w ∈ ws, ∀ a' U, s.WarmedH U.vm → w.before a' U = true) (hcode : Cond.codeWith y bytes maxL ret hh ∈ ws) (hinit : ∀ a' U, s.WarmedH U.vm → (Cond.initialized y.cls).before a' U = true) :
    vx_Back l R p e below s sargs y len W9 (PreOf R mc ms Pc) (PostOf Qc mc ms free) (vx_Post XC mc ms free) := by
  intro m meth c A g ig mk a X hg hsize hdg hW hn hp
  have h1 : (headSpec ws rm).pre.before a A.U = true := atoms_intro fun w hw => hws w hw _ _ X.warmed
  have h2 : (Cond.codeWith y bytes maxL ret hh).before a A.U = true := hws _ hcode _ _ X.warmed
  have h3 : (Cond.initialized y.cls).before a A.U = true := hinit _ _ X.warmed
  have h4 : A.cells + (headSpec ws rm).room.cells ≤ R.cells := by rw [show (headSpec ws rm).room.cells = mc from hrc]; exact hp.1
  have h5 : A.slots + (headSpec ws rm).room.slots ≤ R.slots := by rw [show (headSpec ws rm).room.slots = ms from hrs]; exact hp.2.1
  have hPc : Pc a (A.U.calling g mk a) := hblind _ _ _ _ hp.2.2
  obtain ⟨U, Ls, c0, s0⟩ := A
  dsimp only [Pt.U, Pt.locs, Pt.cells, Pt.slots] at h1 h2 h3 h4 h5 X hn hPc ⊢
  obtain ⟨m9, methY, cY, hn9, hmY, hcY, -, hlY, -⟩ := Cond.codeWith_spec h2
  cases Option.some.inj (hn9.symm.trans hn)
  obtain ⟨kY, hkY, -⟩ := className_of_methodNamed hn
  have hinitY : kY.init = .initialized := Cond.initialized_spec (findClass_of_methodNamed hn) hkY h3
  have h : At U g.method c below := by rw [hg]; exact X.here
  have hlocals9 : W9 + (maxL + 11) + (headSpec ws rm).room.locals ≤ R.locals := hlocals
  have happ : (headSpec ws rm).appliesLoose y e.platform (U.calling g mk a) = true :=
    Spec.appliesLoose_calling (g := g) h hdg hn hkY hinitY
      (X.room_calling (g := g) (R' := (headSpec ws rm).room) hsize hmY hcY hframes (by rw [hlY]; omega) h4 h5) h1
  obtain ⟨mid, hmid⟩ := h.above
  have hfr : (U.setTop g).frames = (.java g :: mid) ++ below := by rw [State.frames_setTop' g h.top, hmid]; rfl
  obtain ⟨o, s₂, hsteps, -, hend, hq⟩ := Steps.callFree hM p X.admits X.cas X.clock (acts := []) hfr happ hPc trivial
  have hq' : vx_Q Qc XC mc ms free a (U.calling g mk a) o s₂ := hq
  rw [State.frames_setTop' g h.top] at hend
  obtain ⟨g₀, hg0⟩ := Option.isSome_iff_exists.mp h.top
  obtain ⟨r, hr⟩ := State.topJava?_eq_some.mp hg0
  have hr' : (({ U with heap := s₂.heap, slotsUsed := s₂.slotsUsed } : State).setVm s₂.vm).frames = .java g₀ :: r := hr
  rcases hq' with ⟨hqc, L, hfe, hL⟩ | ⟨q, rfl, E, ce, L, hx, hce, hcv, hcl, hW₂, hsm, hL⟩
  · obtain ⟨⟨v, rfl⟩, hW₂, e2, q2, q3, q4, q5, q6⟩ := id hfe
    have e3 : s₂ = ({ (U.calling g mk a).setFrames s₂.frames with heap := s₂.heap, slotsUsed := s₂.slotsUsed } : State).setVm s₂.vm := by
      have : s₂ = ({ s₂ with vm := (U.calling g mk a).vm } : State).setVm s₂.vm := rfl
      rw [e2] at this
      exact this
    obtain ⟨c₂, i₂, len₂, hc₂, hd₂, hf₂⟩ := hend
    have hW' : U.WarmedH s₂.vm := hW₂
    have hcc : c₂ = c := by
      have h1 : s₂.code? g.method = U.code? g.method := by
        rw [State.code?_eq, State.code?_eq, hW'.alike.method?]
      exact Option.some.inj (hc₂.symm.trans (h1.trans h.code))
    subst hcc
    have hlen : len₂ = len := by rw [hdg] at hd₂; cases hd₂; rfl
    subst hlen
    have hs₂ : s₂ = (({ U with heap := s₂.heap, slotsUsed := s₂.slotsUsed } : State).setVm s₂.vm).setTop { g with pc := g.pc + len₂, stack := v.toList ++ g.stack } := by
      refine e3.trans ?_
      rw [hf₂, State.calling_eq h.top, State.setFrames_setFrames, State.setTop_of_frames _ hr', hr]
      rfl
    have hsame : U.sameButNew ({ U with heap := s₂.heap, slotsUsed := s₂.slotsUsed } : State) L mc ms := by
      refine ⟨?_, q2, q3, q4, q5, q6⟩
      obtain ⟨t, ht, -⟩ := State.frames_cons hr
      show ({ U with heap := s₂.heap, slotsUsed := s₂.slotsUsed } : State) = { U.setFrames U.frames with heap := s₂.heap, slotsUsed := s₂.slotsUsed }
      rw [State.setFrames_self ht]
    subst hg
    refine Or.inl ⟨v, ⟨(({ U with heap := s₂.heap, slotsUsed := s₂.slotsUsed } : State).setVm s₂.vm), Ls ++ L, c0 + mc, s0 + ms⟩,
      ⟨X.admits, X.cas, X.clock, X.frames, X.room, X.hears, X.method, X.code, (X.here.setHeapUsed s₂.heap s₂.slotsUsed).setVm hW'.alike, X.tail, State.WarmedH.trans X.warmed hW', X.limits, X.bytes, X.same.trans (hsame.setVm s.vm)⟩,
      ⟨g, mk, s₂, L, rfl, rfl, hqc, rfl, hL, rfl, rfl⟩, ?_⟩
    show Steps p.tables e below _ ((({ U with heap := s₂.heap, slotsUsed := s₂.slotsUsed } : State).setVm s₂.vm).setTop { g with pc := g.pc + len₂, stack := v.toList ++ g.stack })
    rw [← hs₂]
    exact hsteps
  · obtain ⟨e2, q2, q3, q4, q5, q6⟩ := id hsm
    have e3 : s₂ = ({ (U.calling g mk a).setFrames s₂.frames with heap := s₂.heap, slotsUsed := s₂.slotsUsed } : State).setVm s₂.vm := by
      have : s₂ = ({ s₂ with vm := (U.calling g mk a).vm } : State).setVm s₂.vm := rfl
      rw [e2] at this
      exact this
    have hf₂ : s₂.frames = .throwing q :: .java g :: U.frames.tail := hend
    have hW' : U.WarmedH s₂.vm := hW₂
    have hs₂ : s₂ = ((({ U with heap := s₂.heap, slotsUsed := s₂.slotsUsed } : State).setVm s₂.vm).setTop g).pushFrame (.throwing q) := by
      refine e3.trans ?_
      rw [hf₂, State.calling_eq h.top, State.setFrames_setFrames, State.pushFrame, State.frames_setTop _ hr', State.setTop_of_frames _ hr', State.setFrames_setFrames, hr]
      rfl
    have hsame : U.sameButNew ({ U with heap := s₂.heap, slotsUsed := s₂.slotsUsed } : State) L mc ms := by
      refine ⟨?_, q2, q3, q4, q5, q6⟩
      obtain ⟨t, ht, -⟩ := State.frames_cons hr
      show ({ U with heap := s₂.heap, slotsUsed := s₂.slotsUsed } : State) = { U.setFrames U.frames with heap := s₂.heap, slotsUsed := s₂.slotsUsed }
      rw [State.setFrames_self ht]
    subst hg
    refine Or.inr ⟨q, ⟨(({ U with heap := s₂.heap, slotsUsed := s₂.slotsUsed } : State).setVm s₂.vm), Ls ++ L, c0 + mc, s0 + ms⟩,
      ⟨X.admits, X.cas, X.clock, X.frames, X.room, X.hears, X.method, X.code, (X.here.setHeapUsed s₂.heap s₂.slotsUsed).setVm hW'.alike, X.tail, State.WarmedH.trans X.warmed hW', X.limits, X.bytes, X.same.trans (hsame.setVm s.vm)⟩,
      ⟨g, mk, s₂, L, E, ce, rfl, rfl, hx, hce, hcv, hcl, rfl, hL, rfl, rfl⟩, ?_⟩
    show Steps p.tables e below _ (((({ U with heap := s₂.heap, slotsUsed := s₂.slotsUsed } : State).setVm s₂.vm).setTop g).pushFrame (.throwing q))
    rw [← hs₂]
    exact hsteps
end
variable {p : Program} {l : Launch} {e : Env} {R : Room} {s : State} {m : MethodId} {args : Array Value} {below : List Frame} {meth : Method} {c : Code} {T : State} {H : Heap} {locs : List Loc} {cells slots : Nat}
theorem vx_callVX (X : Stand p l e R s m args below meth c T locs cells slots) (hexec : p.tables.exec = Jvm.exec) {own C : String} {index : Nat} {y : MethodName} {bytes : ByteArray} {maxL : Nat} {ret : Option FieldType} {hh : List (Nat × Nat × Nat × Nat)}
    (hown : s.vm.findClass own = some m.cls) (hlink : (Cond.methodLink own index y).before args s = true) (hinst : (Cond.instanceMethod y).before args s = true) (hsel : (Cond.selects C y y).before args s = true)
    (hcode : (Cond.codeWith y bytes maxL ret hh).before args s = true) (hy : y.cls ≠ "java/lang/invoke/MethodHandle" ∧ y.cls ≠ "java/lang/invoke/VarHandle")
    {W9 : Nat} {Pre : Pt → Array Value → Prop} {Post : Pt → Array Value → Option Value → Pt → Prop} {PostX : Pt → Array Value → Addr → Pt → Prop} (hK : vx_Back l R p e below s args y 3 W9 Pre Post PostX)
    {b : Addr} {cellB : Cell} (hcell : T.heap[b]? = some cellB) (hobj : cellB.vm.isStatics = false) (hcls : s.vm.findClass C = some cellB.cls)
    {g : JFrame} (hg : g.method = m) (hsize : g.locals.size = c.maxLocals) {argsL rest : List Value} (hlen : ∀ sig, parseMethodDescriptor y.desc = some sig → argsL.length = sig.parameters.length)
    (hstack : g.stack = argsL.reverse ++ .ref b :: rest) (hW : 2 * g.monitorRoom + (rest.map fun v => v.category).sum ≤ W9) (hdg : decode c.code g.pc = .ok (.invokevirtual index, 3))
    (hpre : ∀ vm₁, s.WarmedH vm₁ → Pre ⟨T.setVm vm₁, locs, cells, slots⟩ (Value.ref b :: argsL).toArray) :
    (∃ (v : Option Value) (vm₁ : Vm) (B : Pt), s.WarmedH vm₁ ∧ Stand p l e R s m args below meth c B.U B.locs B.cells B.slots ∧ Post ⟨T.setVm vm₁, locs, cells, slots⟩ (Value.ref b :: argsL).toArray v B ∧
      ∀ target, Steps p.tables e below (B.U.setTop { g with pc := g.pc + 3, stack := v.toList ++ rest }) target → Steps p.tables e below (T.setTop g) target) ∨
    (∃ (q : Addr) (vm₁ : Vm) (B : Pt), s.WarmedH vm₁ ∧ Stand p l e R s m args below meth c B.U B.locs B.cells B.slots ∧ PostX ⟨T.setVm vm₁, locs, cells, slots⟩ (Value.ref b :: argsL).toArray q B ∧
      Steps p.tables e below (T.setTop g) ((B.U.setTop { g with stack := rest }).pushFrame (.throwing q))) := by
  obtain ⟨mk, methM, hnamed, hmethM, hstM, habM⟩ := Cond.instanceMethod_spec hinst
  obtain ⟨m8, methM', cM, hn8, hmethM', -, -, -, -, -, -, hsigM⟩ := Cond.codeWith_spec hcode
  cases Option.some.inj (hn8.symm.trans hnamed)
  cases hmethM.symm.trans hmethM'
  obtain ⟨c2, r2, m2, q1, q2, q3, q4, kP, hkP, hkPi⟩ := Cond.selects_spec hsel
  cases hcls.symm.trans q1
  cases (State.methodFound?_of_named hnamed hy).symm.trans q2
  cases hnamed.symm.trans q3
  have hselP : selectMethod e.platform s.vm cellB.cls mk = .method mk := by rw [Launch.admits_selectMethod X.admits]; exact q4
  obtain ⟨vm₁, X₁, hstep₁⟩ := X.invokevirtual hexec hown hlink hnamed hmethM hstM hkP hkPi hy (a := b) (cell := cellB) hcell
    (fun z h => by rw [h] at hobj; cases hobj) hselP hmethM habM hkP hkPi (g := g) hg (argsL := argsL) (rest := rest) (hlen _ hsigM) hstack hdg
  rcases hK m meth c ⟨T.setVm vm₁, locs, cells, slots⟩ { g with stack := rest } (.invokevirtual index) mk (Value.ref b :: argsL).toArray X₁ hg hsize hdg hW (X₁.named hnamed) (hpre vm₁ X₁.warmed) with ⟨v, B, X', hpost, hsteps⟩ | ⟨q, B, X', hpost, hsteps⟩
  · exact Or.inl ⟨v, vm₁, B, X₁.warmed, X', hpost, fun target h => hstep₁ _ fun acts => by rw [doInvoke_state]; exact hsteps.trans h⟩
  · exact Or.inr ⟨q, vm₁, B, X₁.warmed, X', hpost, hstep₁ _ fun acts => by rw [doInvoke_state]; exact hsteps⟩
theorem vx_callSX (X : Stand p l e R s m args below meth c T locs cells slots) (hexec : p.tables.exec = Jvm.exec) {own : String} {index : Nat} {y : MethodName} {bytes : ByteArray} {maxL : Nat} {ret : Option FieldType} {hh : List (Nat × Nat × Nat × Nat)}
    (hown : s.vm.findClass own = some m.cls) (hlink : (Cond.methodLink own index y).before args s = true) (hstat : (Cond.static y).before args s = true) (hinit : (Cond.initialized y.cls).before args s = true)
    (hcode : (Cond.codeWith y bytes maxL ret hh).before args s = true) (hy : y.cls ≠ "java/lang/invoke/MethodHandle" ∧ y.cls ≠ "java/lang/invoke/VarHandle")
    {W9 : Nat} {Pre : Pt → Array Value → Prop} {Post : Pt → Array Value → Option Value → Pt → Prop} {PostX : Pt → Array Value → Addr → Pt → Prop} (hK : vx_Back l R p e below s args y 3 W9 Pre Post PostX)
    {g : JFrame} (hg : g.method = m) (hsize : g.locals.size = c.maxLocals) {argsL rest : List Value} (hlen : ∀ sig, parseMethodDescriptor y.desc = some sig → argsL.length = sig.parameters.length)
    (hstack : g.stack = argsL.reverse ++ rest) (hW : 2 * g.monitorRoom + (rest.map fun v => v.category).sum ≤ W9) (hdg : decode c.code g.pc = .ok (.invokestatic index, 3))
    (hpre : ∀ vm₁, s.WarmedH vm₁ → Pre ⟨T.setVm vm₁, locs, cells, slots⟩ argsL.toArray) :
    (∃ (v : Option Value) (vm₁ : Vm) (B : Pt), s.WarmedH vm₁ ∧ Stand p l e R s m args below meth c B.U B.locs B.cells B.slots ∧ Post ⟨T.setVm vm₁, locs, cells, slots⟩ argsL.toArray v B ∧
      ∀ target, Steps p.tables e below (B.U.setTop { g with pc := g.pc + 3, stack := v.toList ++ rest }) target → Steps p.tables e below (T.setTop g) target) ∨
    (∃ (q : Addr) (vm₁ : Vm) (B : Pt), s.WarmedH vm₁ ∧ Stand p l e R s m args below meth c B.U B.locs B.cells B.slots ∧ PostX ⟨T.setVm vm₁, locs, cells, slots⟩ argsL.toArray q B ∧
      Steps p.tables e below (T.setTop g) ((B.U.setTop { g with stack := rest }).pushFrame (.throwing q))) := by
  obtain ⟨mk, methM, cM, hnamed, hmethM, -, -, -, -, -, -, hsigM⟩ := Cond.codeWith_spec hcode
  have hstatic : methM.isStatic = true := Cond.static_spec hnamed hmethM hstat
  obtain ⟨kP, hkP, -⟩ := className_of_methodNamed hnamed
  have hinitP : kP.init = .initialized := Cond.initialized_spec (findClass_of_methodNamed hnamed) hkP hinit
  obtain ⟨vm₁, X₁, hstep₁⟩ := X.invokestatic hexec hown hlink hnamed hmethM hstatic hkP hinitP hy (g := g) hg (argsL := argsL) (rest := rest) (hlen _ hsigM) hstack hdg
  rcases hK m meth c ⟨T.setVm vm₁, locs, cells, slots⟩ { g with stack := rest } (.invokestatic index) mk argsL.toArray X₁ hg hsize hdg hW (X₁.named hnamed) (hpre vm₁ X₁.warmed) with ⟨v, B, X', hpost, hsteps⟩ | ⟨q, B, X', hpost, hsteps⟩
  · exact Or.inl ⟨v, vm₁, B, X₁.warmed, X', hpost, fun target h => hstep₁ _ fun acts => by rw [doInvoke_state]; exact hsteps.trans h⟩
  · exact Or.inr ⟨q, vm₁, B, X₁.warmed, X', hpost, hstep₁ _ fun acts => by rw [doInvoke_state]; exact hsteps⟩
theorem vx_callVW (X : Stand p l e R s m args below meth c T locs cells slots) (hexec : p.tables.exec = Jvm.exec) {own C : String} {index : Nat} {y : MethodName} {bytes : ByteArray} {maxL : Nat} {ret : Option FieldType} {hh : List (Nat × Nat × Nat × Nat)}
    (hown : s.vm.findClass own = some m.cls) (hlink : (Cond.methodLink own index y).before args s = true) (hinst : (Cond.instanceMethod y).before args s = true) (hsel : (Cond.selects C y y).before args s = true)
    (hcode : (Cond.codeWith y bytes maxL ret hh).before args s = true) (hy : y.cls ≠ "java/lang/invoke/MethodHandle" ∧ y.cls ≠ "java/lang/invoke/VarHandle")
    {W9 : Nat} {Pre : Pt → Array Value → Prop} {Post : Pt → Array Value → Option Value → Pt → Prop} (hK : Back l R p e below s args y 3 W9 Pre Post)
    {b : Addr} {cellB : Cell} (hcell : T.heap[b]? = some cellB) (hobj : cellB.vm.isStatics = false) (hcls : s.vm.findClass C = some cellB.cls)
    {g : JFrame} (hg : g.method = m) (hsize : g.locals.size = c.maxLocals) {argsL rest : List Value} (hlen : ∀ sig, parseMethodDescriptor y.desc = some sig → argsL.length = sig.parameters.length)
    (hstack : g.stack = argsL.reverse ++ .ref b :: rest) (hW : 2 * g.monitorRoom + (rest.map fun v => v.category).sum ≤ W9) (hdg : decode c.code g.pc = .ok (.invokevirtual index, 3))
    (hpre : ∀ vm₁, s.WarmedH vm₁ → Pre ⟨T.setVm vm₁, locs, cells, slots⟩ (Value.ref b :: argsL).toArray) :
    ∃ (v : Option Value) (vm₁ : Vm) (B : Pt), s.WarmedH vm₁ ∧ Stand p l e R s m args below meth c B.U B.locs B.cells B.slots ∧ Post ⟨T.setVm vm₁, locs, cells, slots⟩ (Value.ref b :: argsL).toArray v B ∧
      ∀ target, Steps p.tables e below (B.U.setTop { g with pc := g.pc + 3, stack := v.toList ++ rest }) target → Steps p.tables e below (T.setTop g) target := by
  obtain ⟨mk, methM, hnamed, hmethM, hstM, habM⟩ := Cond.instanceMethod_spec hinst
  obtain ⟨m8, methM', cM, hn8, hmethM', -, -, -, -, -, -, hsigM⟩ := Cond.codeWith_spec hcode
  cases Option.some.inj (hn8.symm.trans hnamed)
  cases hmethM.symm.trans hmethM'
  obtain ⟨c2, r2, m2, q1, q2, q3, q4, kP, hkP, hkPi⟩ := Cond.selects_spec hsel
  cases hcls.symm.trans q1
  cases (State.methodFound?_of_named hnamed hy).symm.trans q2
  cases hnamed.symm.trans q3
  have hselP : selectMethod e.platform s.vm cellB.cls mk = .method mk := by rw [Launch.admits_selectMethod X.admits]; exact q4
  obtain ⟨vm₁, X₁, hstep₁⟩ := X.invokevirtual hexec hown hlink hnamed hmethM hstM hkP hkPi hy (a := b) (cell := cellB) hcell
    (fun z h => by rw [h] at hobj; cases hobj) hselP hmethM habM hkP hkPi (g := g) hg (argsL := argsL) (rest := rest) (hlen _ hsigM) hstack hdg
  obtain ⟨v, B, X', hpost, hsteps⟩ := hK m meth c ⟨T.setVm vm₁, locs, cells, slots⟩ { g with stack := rest } (.invokevirtual index) mk (Value.ref b :: argsL).toArray X₁ hg hsize hdg hW (X₁.named hnamed) (hpre vm₁ X₁.warmed)
  exact ⟨v, vm₁, B, X₁.warmed, X', hpost, fun target h => hstep₁ _ fun acts => by rw [doInvoke_state]; exact hsteps.trans h⟩
abbrev vx_CVW (R : Room) (s : State) (args : Array Value) (own C : String) (index : Nat) (y : MethodName) (bytes : ByteArray) (maxL : Nat) (ret : Option FieldType) (hh : List (Nat × Nat × Nat × Nat)) (ws : List Cond) (rm : Room) (mc ms n : Nat) : Prop :=
  (rm.cells = mc ∧ rm.slots = ms ∧ rm.frames + 1 ≤ R.frames ∧ 8 + (maxL + 11) + rm.locals ≤ R.locals ∧ (∀ w ∈ ws, ∀ (a' : Array Value) (U : State), s.WarmedH U.vm → w.before a' U = true) ∧ Cond.codeWith y bytes maxL ret hh ∈ ws) ∧
  (Cond.codeWith y bytes maxL ret hh).before args s = true ∧ (Cond.initialized y.cls).before args s = true ∧ (y.cls ≠ "java/lang/invoke/MethodHandle" ∧ y.cls ≠ "java/lang/invoke/VarHandle") ∧
  (∀ sig, parseMethodDescriptor y.desc = some sig → n = sig.parameters.length) ∧ (Cond.methodLink own index y).before args s = true ∧ (Cond.instanceMethod y).before args s = true ∧ (Cond.selects C y y).before args s = true
theorem vx_cwVW {own C : String} {index maxL mc ms : Nat} {y : MethodName} {bytes : ByteArray} {ret : Option FieldType} {hh : List (Nat × Nat × Nat × Nat)} {Ts ws ws' : List Cond} {rm : Room} (n : Nat) (ht : ∀ w ∈ Ts, w.before args s = true) (hT : GoodIn Ts (wsV own index C y ws)) (hw : ws = Cond.codeWith y bytes maxL ret hh :: ws') (hrc : rm.cells = mc) (hrs : rm.slots = ms)
    (hd : y.cls = C ∧ y.cls ≠ "java/lang/invoke/MethodHandle" ∧ y.cls ≠ "java/lang/invoke/VarHandle" ∧ (parseMethodDescriptor y.desc).map (fun d => d.parameters.length) = some n) (hR : rm.frames + 1 ≤ R.frames ∧ 8 + (maxL + 11) + rm.locals ≤ R.locals) :
    vx_CVW R s args own C index y bytes maxL ret hh ws rm mc ms n := by
  obtain ⟨hC, hd⟩ := hd
  subst hC
  have ok : ∀ w ∈ wsV own index y.cls y ws, w.before args s = true := fun w h => ht w (hT w h).1
  have hG : GoodIn Ts ws := fun w h => hT w (by unfold wsV; exact List.mem_append_right _ h)
  have hc : Cond.codeWith y bytes maxL ret hh ∈ ws := by rw [hw]; exact List.mem_cons_self
  refine ⟨⟨hrc, hrs, hR.1, hR.2, pay_in ht hG, hc⟩, ht _ (hG _ hc).1, ok _ (by simp [wsV]), ⟨hd.1, hd.2.1⟩, fun sig h => ?_, ok _ (by simp [wsV]), ok _ (by simp [wsV]), ok _ (by simp [wsV])⟩
  have h2 := hd.2.2
  rw [h] at h2
  exact (Option.some.inj h2).symm
theorem vx_runVW {y : MethodName} {bytes cc : ByteArray} {maxL nL mc ms n index : Nat} {ret : Option FieldType} {hh : List (Nat × Nat × Nat × Nat)} {ws : List Cond} {rm : Room} {Pc : Array Value → State → Prop} {Qc : Array Value → State → Outcome → State → Prop} {free : Addr → Prop} {Ts : List Cond} {own C : String} {b : Addr} {As rest : List Value} {g : JFrame}
    (S : CallFix p m c cc nL s args Ts own) (hM : Met l y ws rm Pc Qc mc ms free) (cw : vx_CVW R s args own C index y bytes maxL ret hh ws rm mc ms n) (hp : PreV s H C b Pc As)
    (hg : g.method = m) (hn : As.length = n) (hsize : g.locals.size = nL) (hstack : g.stack = As.reverse ++ .ref b :: rest) (hW : 2 * g.monitorRoom + (rest.map fun v => v.category).sum ≤ 8) (hdg : decode cc g.pc = .ok (.invokevirtual index, 3)) (hf : cells + mc ≤ R.cells ∧ slots + ms ≤ R.slots) :
    va_Run p l e R s m args below meth c H locs cells slots mc ms g rest (Qc (Value.ref b :: As).toArray) free := by
  obtain ⟨⟨hrc, hrs, hfr, hlo, hws, hcw⟩, hcode, hini, hy, hlen, hl, hin, hse⟩ := cw
  have hK : Back l R p e below s args y 3 8 (PreOf R mc ms Pc) (PostOf Qc mc ms free) := va_backW (hh := hh) (bytes := bytes) (maxL := maxL) (ret := ret) hM hp.1 hrc hrs hfr hlo hws hcw (fun a' U hW => word_at hW (Or.inl (by first | rfl | simp [Cond.onTables, Cond.keeps, Cond.steady])) hini)
  obtain ⟨hx, hb, hml, ho, -⟩ := S
  obtain ⟨-, ⟨cellB, hcB, hoB, hclB⟩, hPc⟩ := hp
  intro T hT X
  obtain ⟨v, vm₁, ⟨U', l2, c2, s2⟩, hW₁, X', ⟨g', mk, t, L, e1, e2, hq, h1, hL, h2, h3⟩, st⟩ := vx_callVW X hx (C := C) (hh := hh) (bytes := bytes) (maxL := maxL) (ret := ret) ho hl hin hse hcode hy hK (by rw [hT]; exact hcB) hoB hclB hg (hsize.trans hml.symm) (argsL := As) (rest := rest) (fun sig h => hn.trans (hlen sig h)) hstack hW (by rw [hb]; exact hdg)
    (fun vm₁ hW₁ => ⟨hf.1, hf.2, hPc (T.setVm vm₁) hT hW₁⟩)
  dsimp only [Pt.U, Pt.locs, Pt.cells, Pt.slots] at X' e1 e2 h1 h2 h3 st
  subst h1; subst h2; subst h3
  exact ⟨v, (T.setVm vm₁).calling g' mk (Value.ref b :: As).toArray, t, U', L, hT, X', hL, e1, e2, hq, st⟩
section
variable {y : MethodName} {bytes cc : ByteArray} {maxL nL mc ms n index : Nat} {ret : Option FieldType} {ws : List Cond} {rm : Room} {Pc : Array Value → State → Prop} {Qc : Array Value → State → Outcome → State → Prop} {XC : String → State → State → Prop} {free : Addr → Prop} {Ts : List Cond} {own C : String} {b : Addr} {As rest : List Value} {g : JFrame}
theorem vx_runVX {hh : List (Nat × Nat × Nat × Nat)} (S : CallFix p m c cc nL s args Ts own) (hM : vx_Met l y ws rm Pc Qc XC mc ms free) (cw : vx_CVW R s args own C index y bytes maxL ret hh ws rm mc ms n) (hp : PreV s H C b Pc As)
    (hg : g.method = m) (hn : As.length = n) (hsize : g.locals.size = nL) (hstack : g.stack = As.reverse ++ .ref b :: rest) (hW : 2 * g.monitorRoom + (rest.map fun v => v.category).sum ≤ 8) (hdg : decode cc g.pc = .ok (.invokevirtual index, 3)) (hf : cells + mc ≤ R.cells ∧ slots + ms ≤ R.slots) :
    vx_Run p l e R s m args below meth c H locs cells slots mc ms g rest (Qc (Value.ref b :: As).toArray) XC free := by
  obtain ⟨⟨hrc, hrs, hfr, hlo, hws, hcw⟩, hcode, hini, hy, hlen, hl, hin, hse⟩ := cw
  have hK : vx_Back l R p e below s args y 3 8 (PreOf R mc ms Pc) (PostOf Qc mc ms free) (vx_Post XC mc ms free) := vx_backW (hh := hh) (bytes := bytes) (maxL := maxL) (ret := ret) hM hp.1 hrc hrs hfr hlo hws hcw (fun a' U hW => word_at hW (Or.inl (by first | rfl | simp [Cond.onTables, Cond.keeps, Cond.steady])) hini)
  obtain ⟨hx, hb, hml, ho, -⟩ := S
  obtain ⟨-, ⟨cellB, hcB, hoB, hclB⟩, hPc⟩ := hp
  intro T hT X
  rcases vx_callVX X hx (C := C) (hh := hh) (bytes := bytes) (maxL := maxL) (ret := ret) ho hl hin hse hcode hy hK (by rw [hT]; exact hcB) hoB hclB hg (hsize.trans hml.symm) (argsL := As) (rest := rest) (fun sig h => hn.trans (hlen sig h)) hstack hW (by rw [hb]; exact hdg)
    (fun vm₁ hW₁ => ⟨hf.1, hf.2, hPc (T.setVm vm₁) hT hW₁⟩) with ⟨v, vm₁, ⟨U', l2, c2, s2⟩, hW₁, X', ⟨g', mk, t, L, e1, e2, hq, h1, hL, h2, h3⟩, st⟩ | ⟨q, vm₁, ⟨U', l2, c2, s2⟩, hW₁, X', ⟨g', mk, t, L, E, ce, e1, e2, hq, hce, hcv, hcl, h1, hL, h2, h3⟩, st⟩
  · dsimp only [Pt.U, Pt.locs, Pt.cells, Pt.slots] at X' e1 e2 h1 h2 h3 st
    subst h1; subst h2; subst h3
    exact Or.inl ⟨v, (T.setVm vm₁).calling g' mk (Value.ref b :: As).toArray, t, U', L, hT, X', hL, e1, e2, hq, st⟩
  · dsimp only [Pt.U, Pt.locs, Pt.cells, Pt.slots] at X' e1 e2 h1 h2 h3 st hcl
    subst h1; subst h2; subst h3
    exact Or.inr ⟨q, (T.setVm vm₁).calling g' mk (Value.ref b :: As).toArray, t, U', L, E, ce, hT, X', hL, e1, e2, hq, hce, hcv, vx_cls hW₁ hcl, st⟩
theorem vx_runSX {hh : List (Nat × Nat × Nat × Nat)} (S : CallFix p m c cc nL s args Ts own) (hM : vx_Met l y ws rm Pc Qc XC mc ms free) (cw : vx_CSW R s args own index y bytes maxL ret hh ws rm mc ms n) (hp : PreS s H Pc As)
    (hg : g.method = m) (hn : As.length = n) (hsize : g.locals.size = nL) (hstack : g.stack = As.reverse ++ rest) (hW : 2 * g.monitorRoom + (rest.map fun v => v.category).sum ≤ 8) (hdg : decode cc g.pc = .ok (.invokestatic index, 3)) (hf : cells + mc ≤ R.cells ∧ slots + ms ≤ R.slots) :
    vx_Run p l e R s m args below meth c H locs cells slots mc ms g rest (Qc As.toArray) XC free := by
  obtain ⟨⟨hrc, hrs, hfr, hlo, hws, hcw⟩, hcode, hini, hy, hlen, hl, hstt⟩ := cw
  have hK : vx_Back l R p e below s args y 3 8 (PreOf R mc ms Pc) (PostOf Qc mc ms free) (vx_Post XC mc ms free) := vx_backW (hh := hh) (bytes := bytes) (maxL := maxL) (ret := ret) hM hp.1 hrc hrs hfr hlo hws hcw (fun a' U hW => word_at hW (Or.inl (by first | rfl | simp [Cond.onTables, Cond.keeps, Cond.steady])) hini)
  obtain ⟨hx, hb, hml, ho, -⟩ := S
  intro T hT X
  rcases vx_callSX X hx (hh := hh) (bytes := bytes) (maxL := maxL) (ret := ret) ho hl hstt hini hcode hy hK hg (hsize.trans hml.symm) (argsL := As) (rest := rest) (fun sig h => hn.trans (hlen sig h)) hstack hW (by rw [hb]; exact hdg)
    (fun vm₁ hW₁ => ⟨hf.1, hf.2, hp.2 (T.setVm vm₁) hT hW₁⟩) with ⟨v, vm₁, ⟨U', l2, c2, s2⟩, hW₁, X', ⟨g', mk, t, L, e1, e2, hq, h1, hL, h2, h3⟩, st⟩ | ⟨q, vm₁, ⟨U', l2, c2, s2⟩, hW₁, X', ⟨g', mk, t, L, E, ce, e1, e2, hq, hce, hcv, hcl, h1, hL, h2, h3⟩, st⟩
  · dsimp only [Pt.U, Pt.locs, Pt.cells, Pt.slots] at X' e1 e2 h1 h2 h3 st
    subst h1; subst h2; subst h3
    exact Or.inl ⟨v, (T.setVm vm₁).calling g' mk As.toArray, t, U', L, hT, X', hL, e1, e2, hq, st⟩
  · dsimp only [Pt.U, Pt.locs, Pt.cells, Pt.slots] at X' e1 e2 h1 h2 h3 st hcl
    subst h1; subst h2; subst h3
    exact Or.inr ⟨q, (T.setVm vm₁).calling g' mk As.toArray, t, U', L, E, ce, hT, X', hL, e1, e2, hq, hce, hcv, vx_cls hW₁ hcl, st⟩
end
end VXH
theorem vx_ofWH {l : Launch} {y : MethodName} {ws ws' : List Cond} {rm : Room} {Pc : Array Value → State → Prop} {Qc : Array Value → State → Outcome → State → Prop} {XC : String → State → State → Prop} {mc ms : Nat} {free : Addr → Prop} {cc : ByteArray} {maxL : Nat} {ret : Option FieldType} {hh : List (Nat × Nat × Nat × Nat)}
    (hy : plainName y.cls = true) (hw : ws = Cond.codeWith y cc maxL ret hh :: ws')
    (body : ∀ p e s m args below meth c s₁, BodyLoose p l y (headSpec ws rm) cc maxL ret e s m args below meth c s₁ → c.maxLocals = maxL → Pc args s →
      W p l e (headSpec ws rm).room s m args below meth c s.heap [] 0 0 (vx_MQ below Qc XC args s mc ms free) (entryFrame m args maxL)) : vx_Met l y ws rm Pc Qc XC mc ms free := by
  refine MetFree.of_bodyS (code := cc) (maxLocals := maxL) (ret := ret) hy ?_ ?_
  · intro args s m h hn
    obtain ⟨m9, meth, c, hn9, h1, h2, h3, h4, -, h5, h6, -⟩ := Cond.codeWith_spec (atoms_spec (ws := ws) h _ (by rw [hw]; exact List.mem_cons_self))
    cases hn.symm.trans hn9
    exact ⟨meth, c, h1, h2, h3, h4, h5, h6⟩
  · intro p e s m args below meth c s₁ B hml hP _
    have hh0 : s₁.heap = s.heap := by rw [B.state]; rfl
    obtain ⟨t, a1, o, b1, b2, b3⟩ := body p e s m args below meth c s₁ B hml hP s₁ hh0 (Stand.of_body B)
    exact ⟨t, o, a1, b1, b2, b3⟩
/-! ===== END ===== -/

/-! ===== BEGIN printed: names, fields, word lists, decode rows ===== -/
def RX0 : String := "SnapshotShelves$Row"
def TX0 : u_T := fun k => match k with
  | 0 => ("SnapshotShelves$Row", "keys", "[I", true)
  | 1 => ("SnapshotShelves$Row", "times", "[I", true)
  | 2 => ("SnapshotShelves$Row", "values", "[J", true)
  | 3 => ("SnapshotShelves$Row", "erasures", "[Z", true)
  | _ => ("SnapshotShelves$Row", "size", "I", false)
def tyX0 : Nat → FieldType := fun k => match k with
  | 0 => .array .int
  | 1 => .array .int
  | 2 => .array .long
  | 3 => .array .boolean
  | _ => .int
abbrev wsX00 : List Cond := u_ws RX0 TX0 5
theorem nmX0 : ∀ a, a < 5 → ∀ b, b < 5 → a ≠ b → (TX0 a).2.1 ≠ (TX0 b).2.1 := by decide +kernel
theorem tyX0_ok : ∀ k, k < 5 → parseFieldDescriptor (TX0 k).2.2.1 = some (tyX0 k) := by decide +kernel
abbrev cX0_init : ByteArray := prog_2_method_1_code
def yX0_init : MethodName := ⟨RX0, "<init>", "(I)V"⟩
abbrev cX0_takeAway : ByteArray := prog_2_method_3_code
def yX0_takeAway : MethodName := ⟨RX0, "takeAway", "(I)V"⟩
abbrev cX0_latest : ByteArray := prog_2_method_4_code
def yX0_latest : MethodName := ⟨RX0, "latest", "(II)I"⟩
def RX1 : String := "SnapshotShelves$Transaction"
def TX1 : u_T := fun k => match k with
  | 0 => ("SnapshotShelves$Transaction", "writes", "LSnapshotShelves$Row;", true)
  | 1 => ("SnapshotShelves$Transaction", "isLive", "Z", false)
  | 2 => ("SnapshotShelves$Transaction", "number", "I", false)
  | _ => ("SnapshotShelves$Transaction", "start", "I", false)
def tyX1 : Nat → FieldType := fun k => match k with
  | 0 => .object "SnapshotShelves$Row"
  | 1 => .boolean
  | 2 => .int
  | _ => .int
abbrev wsX10 : List Cond := u_ws RX1 TX1 4
theorem nmX1 : ∀ a, a < 4 → ∀ b, b < 4 → a ≠ b → (TX1 a).2.1 ≠ (TX1 b).2.1 := by decide +kernel
theorem tyX1_ok : ∀ k, k < 4 → parseFieldDescriptor (TX1 k).2.2.1 = some (tyX1 k) := by decide +kernel
abbrev cX1_init : ByteArray := prog_3_method_1_code
def yX1_init : MethodName := ⟨RX1, "<init>", "()V"⟩
abbrev cX1_reopen : ByteArray := prog_3_method_2_code
def yX1_reopen : MethodName := ⟨RX1, "reopen", "(II)V"⟩
def RX2 : String := "SnapshotShelves"
def TX2 : u_T := fun k => match k with
  | 0 => ("SnapshotShelves", "shelf", "LSnapshotShelves$Row;", true)
  | 1 => ("SnapshotShelves", "slots", "[LSnapshotShelves$Transaction;", true)
  | 2 => ("SnapshotShelves", "now", "I", false)
  | 3 => ("SnapshotShelves", "lastVacuum", "I", false)
  | _ => ("SnapshotShelves", "begun", "I", false)
def tyX2 : Nat → FieldType := fun k => match k with
  | 0 => .object "SnapshotShelves$Row"
  | 1 => .array (.object "SnapshotShelves$Transaction")
  | 2 => .int
  | 3 => .int
  | _ => .int
abbrev wsX20 : List Cond := u_ws RX2 TX2 5
theorem nmX2 : ∀ a, a < 5 → ∀ b, b < 5 → a ≠ b → (TX2 a).2.1 ≠ (TX2 b).2.1 := by decide +kernel
theorem tyX2_ok : ∀ k, k < 5 → parseFieldDescriptor (TX2 k).2.2.1 = some (tyX2 k) := by decide +kernel
abbrev cX2_init : ByteArray := prog_1_method_1_code
def yX2_init : MethodName := ⟨RX2, "<init>", "()V"⟩
abbrev cX2_begin : ByteArray := prog_1_method_2_code
def yX2_begin : MethodName := ⟨RX2, "begin", "()I"⟩
abbrev cX2_beginAt : ByteArray := prog_1_method_3_code
def yX2_beginAt : MethodName := ⟨RX2, "beginAt", "(I)I"⟩
abbrev cX2_read : ByteArray := prog_1_method_4_code
def yX2_read : MethodName := ⟨RX2, "read", "(II)J"⟩
abbrev cX2_vacuum : ByteArray := prog_1_method_12_code
def yX2_vacuum : MethodName := ⟨RX2, "vacuum", "()I"⟩
abbrev cX2_time : ByteArray := prog_1_method_13_code
def yX2_time : MethodName := ⟨RX2, "time", "()I"⟩
abbrev cX2_live : ByteArray := prog_1_method_14_code
def yX2_live : MethodName := ⟨RX2, "live", "()I"⟩
abbrev cX2_enter : ByteArray := prog_1_method_19_code
def yX2_enter : MethodName := ⟨RX2, "enter", "(I)I"⟩
abbrev cX2_liveTransaction : ByteArray := prog_1_method_20_code
def yX2_liveTransaction : MethodName := ⟨RX2, "liveTransaction", "(I)LSnapshotShelves$Transaction;"⟩
abbrev cX2_isNeeded : ByteArray := prog_1_method_28_code
def yX2_isNeeded : MethodName := ⟨RX2, "isNeeded", "(I)Z"⟩
def RX3 : String := "SnapshotShelvesModel"
def TX3 : u_T := fun k => match k with
  | _ => ("", "", "", false)
def tyX3 : Nat → FieldType := fun k => match k with
  | _ => .int
abbrev wsX30 : List Cond := u_ws RX3 TX3 0
theorem nmX3 : ∀ a, a < 0 → ∀ b, b < 0 → a ≠ b → (TX3 a).2.1 ≠ (TX3 b).2.1 := by decide +kernel
theorem tyX3_ok : ∀ k, k < 0 → parseFieldDescriptor (TX3 k).2.2.1 = some (tyX3 k) := by decide +kernel
def RJ0 : String := "java/lang/String"
def TJ0 : u_T := fun k => match k with
  | _ => ("", "", "", false)
def tyJ0 : Nat → FieldType := fun k => match k with
  | _ => .int
abbrev wsJ00 : List Cond := u_ws RJ0 TJ0 0
theorem nmJ0 : ∀ a, a < 0 → ∀ b, b < 0 → a ≠ b → (TJ0 a).2.1 ≠ (TJ0 b).2.1 := by decide +kernel
theorem tyJ0_ok : ∀ k, k < 0 → parseFieldDescriptor (TJ0 k).2.2.1 = some (tyJ0 k) := by decide +kernel
def RL : String := "SnapshotShelvesLaw"
abbrev cL_begin : ByteArray := method_3_code
def yL_begin : MethodName := ⟨RL, "begin", "(LSnapshotShelves;[J)I"⟩
abbrev cL_beginAt : ByteArray := method_4_code
def yL_beginAt : MethodName := ⟨RL, "beginAt", "(LSnapshotShelves;I[J)I"⟩
abbrev cL_read : ByteArray := method_5_code
def yL_read : MethodName := ⟨RL, "read", "(LSnapshotShelves;II[J)I"⟩
abbrev cL_law : ByteArray := code
def yL_law : MethodName := ⟨RL, "law", "([I)Z"⟩
def wsX0_init : List Cond := .code yX0_init cX0_init 2 none :: ([.methodLink RX0 3 objectInit, .instanceMethod objectInit, .code objectInit ⟨#[0xb1]⟩ 1 none, .fieldLink RX0 9 "SnapshotShelves$Row" "size" "I", .arrayClass .int, .fieldLink RX0 15 "SnapshotShelves$Row" "keys" "[I", .fieldLink RX0 19 "SnapshotShelves$Row" "times" "[I", .arrayClass .long, .fieldLink RX0 22 "SnapshotShelves$Row" "values" "[J", .arrayClass .boolean, .fieldLink RX0 26 "SnapshotShelves$Row" "erasures" "[Z"] ++ wsX00)
def wsX0_takeAway : List Cond := .code yX0_takeAway cX0_takeAway 3 none :: ([.fieldLink RX0 9 "SnapshotShelves$Row" "size" "I", .fieldLink RX0 15 "SnapshotShelves$Row" "keys" "[I", .fieldLink RX0 19 "SnapshotShelves$Row" "times" "[I", .fieldLink RX0 22 "SnapshotShelves$Row" "values" "[J", .fieldLink RX0 26 "SnapshotShelves$Row" "erasures" "[Z"] ++ wsX00)
def wsX0_latest : List Cond := .code yX0_latest cX0_latest 4 (some .int) :: ([.fieldLink RX0 9 "SnapshotShelves$Row" "size" "I", .fieldLink RX0 15 "SnapshotShelves$Row" "keys" "[I", .fieldLink RX0 19 "SnapshotShelves$Row" "times" "[I"] ++ wsX00)
def wsX1_init : List Cond := .code yX1_init cX1_init 1 none :: ([.methodLink RX1 3 objectInit, .instanceMethod objectInit, .code objectInit ⟨#[0xb1]⟩ 1 none, .classLink RX1 9 RX0, .instantiable RX0 5, .initialized RX0, .fieldLink RX1 14 "SnapshotShelves$Transaction" "writes" "LSnapshotShelves$Row;", .fieldLink RX1 20 "SnapshotShelves$Transaction" "isLive" "Z", .fieldLink RX1 24 "SnapshotShelves$Transaction" "number" "I", .fieldLink RX1 28 "SnapshotShelves$Transaction" "start" "I", .methodLink RX1 11 yX0_init, .instanceMethod yX0_init, .code yX0_init cX0_init 2 none, .methodLink RX0 3 objectInit, .fieldLink RX0 9 "SnapshotShelves$Row" "size" "I", .arrayClass .int, .fieldLink RX0 15 "SnapshotShelves$Row" "keys" "[I", .fieldLink RX0 19 "SnapshotShelves$Row" "times" "[I", .arrayClass .long, .fieldLink RX0 22 "SnapshotShelves$Row" "values" "[J", .arrayClass .boolean, .fieldLink RX0 26 "SnapshotShelves$Row" "erasures" "[Z"] ++ wsX00 ++ wsX10)
def wsX1_reopen : List Cond := .code yX1_reopen cX1_reopen 3 none :: ([.fieldLink RX1 20 "SnapshotShelves$Transaction" "isLive" "Z", .fieldLink RX1 24 "SnapshotShelves$Transaction" "number" "I", .fieldLink RX1 28 "SnapshotShelves$Transaction" "start" "I", .fieldLink RX1 14 "SnapshotShelves$Transaction" "writes" "LSnapshotShelves$Row;", .fieldLink RX1 31 "SnapshotShelves$Row" "size" "I"] ++ wsX10 ++ wsX00)
def wsX2_init_r1 : List Cond := [Cond.methodLink RX2 1 objectInit, Cond.instanceMethod objectInit, Cond.code objectInit ⟨#[0xb1]⟩ 1 none, Cond.classLink RX2 7 RX0, Cond.instantiable RX0 5, Cond.initialized RX0, Cond.fieldLink RX2 14 "SnapshotShelves" "shelf" "LSnapshotShelves$Row;", Cond.classLink RX2 18 RX1, Cond.fieldLink RX2 20 "SnapshotShelves" "slots" "[LSnapshotShelves$Transaction;", Cond.fieldLink RX2 24 "SnapshotShelves" "now" "I", Cond.fieldLink RX2 28 "SnapshotShelves" "lastVacuum" "I", Cond.fieldLink RX2 31 "SnapshotShelves" "begun" "I", Cond.instantiable RX1 4, Cond.initialized RX1, Cond.methodLink RX2 11 yX0_init, Cond.instanceMethod yX0_init, Cond.code yX0_init cX0_init 2 none, Cond.methodLink RX0 3 objectInit, Cond.fieldLink RX0 9 "SnapshotShelves$Row" "size" "I", Cond.arrayClass .int, Cond.fieldLink RX0 15 "SnapshotShelves$Row" "keys" "[I", Cond.fieldLink RX0 19 "SnapshotShelves$Row" "times" "[I", Cond.arrayClass .long, Cond.fieldLink RX0 22 "SnapshotShelves$Row" "values" "[J"]
def wsX2_init_r2 : List Cond := [Cond.arrayClass .boolean, Cond.fieldLink RX0 26 "SnapshotShelves$Row" "erasures" "[Z", Cond.instanceMethod yX1_init, Cond.code yX1_init cX1_init 1 none, Cond.methodLink RX1 3 objectInit, Cond.classLink RX1 9 RX0, Cond.fieldLink RX1 14 "SnapshotShelves$Transaction" "writes" "LSnapshotShelves$Row;", Cond.fieldLink RX1 20 "SnapshotShelves$Transaction" "isLive" "Z", Cond.fieldLink RX1 24 "SnapshotShelves$Transaction" "number" "I", Cond.fieldLink RX1 28 "SnapshotShelves$Transaction" "start" "I", Cond.methodLink RX1 11 yX0_init]
def wsX2_init : List Cond := .code yX2_init cX2_init 2 none :: ((wsX2_init_r1 ++ wsX2_init_r2) ++ wsX00 ++ wsX20 ++ wsX10)
def wsX2_enter : List Cond := .code yX2_enter cX2_enter 3 (some .int) :: ([.classLink RX2 101 "java/lang/UnsupportedOperationException", .initialized "java/lang/UnsupportedOperationException", .fieldLink RX2 20 "SnapshotShelves" "slots" "[LSnapshotShelves$Transaction;", .fieldLink RX2 89 "SnapshotShelves$Transaction" "isLive" "Z", .fieldLink RX2 31 "SnapshotShelves" "begun" "I", .fieldLink RX2 139 "SnapshotShelves$Transaction" "number" "I", .methodLink RX2 135 yX1_reopen, .instanceMethod yX1_reopen, .selects RX1 yX1_reopen yX1_reopen, .initialized RX1, .code yX1_reopen cX1_reopen 3 none, .fieldLink RX1 20 "SnapshotShelves$Transaction" "isLive" "Z", .fieldLink RX1 24 "SnapshotShelves$Transaction" "number" "I", .fieldLink RX1 28 "SnapshotShelves$Transaction" "start" "I", .fieldLink RX1 14 "SnapshotShelves$Transaction" "writes" "LSnapshotShelves$Row;", .fieldLink RX1 31 "SnapshotShelves$Row" "size" "I"] ++ wsX20 ++ wsX10 ++ wsX00 ++ (vx_atS RX2 105 "java/lang/UnsupportedOperationException" ["java/lang/RuntimeException", "java/lang/Exception"]).filter goodWord)
def wsX2_begin : List Cond := .code yX2_begin cX2_begin 1 (some .int) :: ([.fieldLink RX2 24 "SnapshotShelves" "now" "I", .methodLink RX2 35 yX2_enter, .instanceMethod yX2_enter, .selects RX2 yX2_enter yX2_enter, .initialized RX2, .code yX2_enter cX2_enter 3 (some .int), .classLink RX2 101 "java/lang/UnsupportedOperationException", .initialized "java/lang/UnsupportedOperationException", .fieldLink RX2 20 "SnapshotShelves" "slots" "[LSnapshotShelves$Transaction;", .fieldLink RX2 89 "SnapshotShelves$Transaction" "isLive" "Z", .fieldLink RX2 31 "SnapshotShelves" "begun" "I", .fieldLink RX2 139 "SnapshotShelves$Transaction" "number" "I", .methodLink RX2 135 yX1_reopen, .instanceMethod yX1_reopen, .selects RX1 yX1_reopen yX1_reopen, .initialized RX1, .code yX1_reopen cX1_reopen 3 none, .fieldLink RX1 20 "SnapshotShelves$Transaction" "isLive" "Z", .fieldLink RX1 24 "SnapshotShelves$Transaction" "number" "I", .fieldLink RX1 28 "SnapshotShelves$Transaction" "start" "I", .fieldLink RX1 14 "SnapshotShelves$Transaction" "writes" "LSnapshotShelves$Row;", .fieldLink RX1 31 "SnapshotShelves$Row" "size" "I"] ++ wsX20 ++ wsX10 ++ wsX00 ++ (vx_atS RX2 105 "java/lang/UnsupportedOperationException" ["java/lang/RuntimeException", "java/lang/Exception"]).filter goodWord)
def wsX2_beginAt_r1 : List Cond := [Cond.classLink RX2 39 "java/lang/IllegalArgumentException", Cond.initialized "java/lang/IllegalArgumentException", Cond.fieldLink RX2 28 "SnapshotShelves" "lastVacuum" "I", Cond.fieldLink RX2 24 "SnapshotShelves" "now" "I", Cond.methodLink RX2 35 yX2_enter, Cond.instanceMethod yX2_enter, Cond.selects RX2 yX2_enter yX2_enter, Cond.initialized RX2, Cond.code yX2_enter cX2_enter 3 (some .int), Cond.classLink RX2 101 "java/lang/UnsupportedOperationException", Cond.initialized "java/lang/UnsupportedOperationException", Cond.fieldLink RX2 20 "SnapshotShelves" "slots" "[LSnapshotShelves$Transaction;", Cond.fieldLink RX2 89 "SnapshotShelves$Transaction" "isLive" "Z", Cond.fieldLink RX2 31 "SnapshotShelves" "begun" "I", Cond.fieldLink RX2 139 "SnapshotShelves$Transaction" "number" "I", Cond.methodLink RX2 135 yX1_reopen, Cond.instanceMethod yX1_reopen, Cond.selects RX1 yX1_reopen yX1_reopen, Cond.initialized RX1, Cond.code yX1_reopen cX1_reopen 3 none, Cond.fieldLink RX1 20 "SnapshotShelves$Transaction" "isLive" "Z", Cond.fieldLink RX1 24 "SnapshotShelves$Transaction" "number" "I", Cond.fieldLink RX1 28 "SnapshotShelves$Transaction" "start" "I", Cond.fieldLink RX1 14 "SnapshotShelves$Transaction" "writes" "LSnapshotShelves$Row;"]
def wsX2_beginAt_r2 : List Cond := [Cond.fieldLink RX1 31 "SnapshotShelves$Row" "size" "I"]
def wsX2_beginAt : List Cond := .code yX2_beginAt cX2_beginAt 2 (some .int) :: ((wsX2_beginAt_r1 ++ wsX2_beginAt_r2) ++ wsX20 ++ wsX10 ++ wsX00 ++ (vx_atS RX2 43 "java/lang/IllegalArgumentException" ["java/lang/RuntimeException", "java/lang/Exception"]).filter goodWord ++ (vx_atS RX2 105 "java/lang/UnsupportedOperationException" ["java/lang/RuntimeException", "java/lang/Exception"]).filter goodWord)
def wsX2_liveTransaction : List Cond := .code yX2_liveTransaction cX2_liveTransaction 3 (some (.object "SnapshotShelves$Transaction")) :: ([.classLink RX2 144 "java/lang/IllegalStateException", .initialized "java/lang/IllegalStateException", .fieldLink RX2 20 "SnapshotShelves" "slots" "[LSnapshotShelves$Transaction;", .fieldLink RX2 89 "SnapshotShelves$Transaction" "isLive" "Z", .fieldLink RX2 139 "SnapshotShelves$Transaction" "number" "I"] ++ wsX20 ++ wsX10 ++ (vx_atS RX2 148 "java/lang/IllegalStateException" ["java/lang/RuntimeException", "java/lang/Exception"]).filter goodWord)
def wsX2_read : List Cond := .code yX2_read cX2_read 6 (some .long) :: ([.classLink RX2 64 "java/util/NoSuchElementException", .initialized "java/util/NoSuchElementException", .fieldLink RX2 57 "SnapshotShelves$Transaction" "start" "I", .fieldLink RX2 69 "SnapshotShelves$Row" "values" "[J", .methodLink RX2 46 yX2_liveTransaction, .instanceMethod yX2_liveTransaction, .selects RX2 yX2_liveTransaction yX2_liveTransaction, .initialized RX2, .code yX2_liveTransaction cX2_liveTransaction 3 (some (.object "SnapshotShelves$Transaction")), .classLink RX2 144 "java/lang/IllegalStateException", .initialized "java/lang/IllegalStateException", .fieldLink RX2 20 "SnapshotShelves" "slots" "[LSnapshotShelves$Transaction;", .fieldLink RX2 89 "SnapshotShelves$Transaction" "isLive" "Z", .fieldLink RX2 139 "SnapshotShelves$Transaction" "number" "I"] ++ wsX10 ++ wsX00 ++ wsX20 ++ (vx_atS RX2 68 "java/util/NoSuchElementException" ["java/lang/RuntimeException", "java/lang/Exception"]).filter goodWord ++ (vx_atS RX2 148 "java/lang/IllegalStateException" ["java/lang/RuntimeException", "java/lang/Exception"]).filter goodWord)
def wsX2_isNeeded : List Cond := .code yX2_isNeeded cX2_isNeeded 4 (some .boolean) :: ([.fieldLink RX2 14 "SnapshotShelves" "shelf" "LSnapshotShelves$Row;", .fieldLink RX2 117 "SnapshotShelves$Row" "keys" "[I", .fieldLink RX2 24 "SnapshotShelves" "now" "I", .fieldLink RX2 20 "SnapshotShelves" "slots" "[LSnapshotShelves$Transaction;", .fieldLink RX2 89 "SnapshotShelves$Transaction" "isLive" "Z", .fieldLink RX2 57 "SnapshotShelves$Transaction" "start" "I", .methodLink RX2 157 yX0_latest, .instanceMethod yX0_latest, .selects RX0 yX0_latest yX0_latest, .initialized RX0, .code yX0_latest cX0_latest 4 (some .int), .fieldLink RX0 9 "SnapshotShelves$Row" "size" "I", .fieldLink RX0 15 "SnapshotShelves$Row" "keys" "[I", .fieldLink RX0 19 "SnapshotShelves$Row" "times" "[I"] ++ wsX20 ++ wsX00 ++ wsX10)
def wsX2_vacuum_r1 : List Cond := [Cond.fieldLink RX2 14 "SnapshotShelves" "shelf" "LSnapshotShelves$Row;", Cond.fieldLink RX2 84 "SnapshotShelves$Row" "size" "I", Cond.fieldLink RX2 24 "SnapshotShelves" "now" "I", Cond.fieldLink RX2 28 "SnapshotShelves" "lastVacuum" "I", Cond.methodLink RX2 110 yX2_isNeeded, Cond.instanceMethod yX2_isNeeded, Cond.selects RX2 yX2_isNeeded yX2_isNeeded, Cond.initialized RX2, Cond.code yX2_isNeeded cX2_isNeeded 4 (some .boolean), Cond.fieldLink RX2 117 "SnapshotShelves$Row" "keys" "[I", Cond.fieldLink RX2 20 "SnapshotShelves" "slots" "[LSnapshotShelves$Transaction;", Cond.fieldLink RX2 89 "SnapshotShelves$Transaction" "isLive" "Z", Cond.fieldLink RX2 57 "SnapshotShelves$Transaction" "start" "I", Cond.methodLink RX2 157 yX0_latest, Cond.instanceMethod yX0_latest, Cond.selects RX0 yX0_latest yX0_latest, Cond.initialized RX0, Cond.code yX0_latest cX0_latest 4 (some .int), Cond.fieldLink RX0 9 "SnapshotShelves$Row" "size" "I", Cond.fieldLink RX0 15 "SnapshotShelves$Row" "keys" "[I", Cond.fieldLink RX0 19 "SnapshotShelves$Row" "times" "[I", Cond.methodLink RX2 114 yX0_takeAway, Cond.instanceMethod yX0_takeAway, Cond.selects RX0 yX0_takeAway yX0_takeAway]
def wsX2_vacuum_r2 : List Cond := [Cond.code yX0_takeAway cX0_takeAway 3 none, Cond.fieldLink RX0 22 "SnapshotShelves$Row" "values" "[J", Cond.fieldLink RX0 26 "SnapshotShelves$Row" "erasures" "[Z"]
def wsX2_vacuum : List Cond := .code yX2_vacuum cX2_vacuum 3 (some .int) :: ((wsX2_vacuum_r1 ++ wsX2_vacuum_r2) ++ wsX20 ++ wsX00 ++ wsX10)
def wsX2_time : List Cond := .code yX2_time cX2_time 1 (some .int) :: ([.fieldLink RX2 24 "SnapshotShelves" "now" "I"] ++ wsX20)
def wsX2_live : List Cond := .code yX2_live cX2_live 3 (some .int) :: ([.fieldLink RX2 20 "SnapshotShelves" "slots" "[LSnapshotShelves$Transaction;", .fieldLink RX2 89 "SnapshotShelves$Transaction" "isLive" "Z"] ++ wsX20 ++ wsX10)
def wsL_begin_r1 : List Cond := [Cond.classLink RL 13 "java/lang/UnsupportedOperationException", Cond.methodLink RL 7 yX2_begin, Cond.instanceMethod yX2_begin, Cond.selects RX2 yX2_begin yX2_begin, Cond.initialized RX2, Cond.code yX2_begin cX2_begin 1 (some .int), Cond.fieldLink RX2 24 "SnapshotShelves" "now" "I", Cond.methodLink RX2 35 yX2_enter, Cond.instanceMethod yX2_enter, Cond.selects RX2 yX2_enter yX2_enter, Cond.code yX2_enter cX2_enter 3 (some .int), Cond.classLink RX2 101 "java/lang/UnsupportedOperationException", Cond.initialized "java/lang/UnsupportedOperationException", Cond.fieldLink RX2 20 "SnapshotShelves" "slots" "[LSnapshotShelves$Transaction;", Cond.fieldLink RX2 89 "SnapshotShelves$Transaction" "isLive" "Z", Cond.fieldLink RX2 31 "SnapshotShelves" "begun" "I", Cond.fieldLink RX2 139 "SnapshotShelves$Transaction" "number" "I", Cond.methodLink RX2 135 yX1_reopen, Cond.instanceMethod yX1_reopen, Cond.selects RX1 yX1_reopen yX1_reopen, Cond.initialized RX1, Cond.code yX1_reopen cX1_reopen 3 none, Cond.fieldLink RX1 20 "SnapshotShelves$Transaction" "isLive" "Z", Cond.fieldLink RX1 24 "SnapshotShelves$Transaction" "number" "I"]
def wsL_begin_r2 : List Cond := [Cond.fieldLink RX1 28 "SnapshotShelves$Transaction" "start" "I", Cond.fieldLink RX1 14 "SnapshotShelves$Transaction" "writes" "LSnapshotShelves$Row;", Cond.fieldLink RX1 31 "SnapshotShelves$Row" "size" "I"]
def wsL_begin : List Cond := .codeWith yL_begin cL_begin 3 (some .int) [(0, 8, 11, 13)] :: ((wsL_begin_r1 ++ wsL_begin_r2) ++ wsX20 ++ wsX10 ++ wsX00 ++ (vx_atS RX2 105 "java/lang/UnsupportedOperationException" ["java/lang/RuntimeException", "java/lang/Exception"]).filter goodWord)
def wsL_beginAt_r1 : List Cond := [Cond.classLink RL 19 "java/lang/IllegalArgumentException", Cond.classLink RL 13 "java/lang/UnsupportedOperationException", Cond.methodLink RL 15 yX2_beginAt, Cond.instanceMethod yX2_beginAt, Cond.selects RX2 yX2_beginAt yX2_beginAt, Cond.initialized RX2, Cond.code yX2_beginAt cX2_beginAt 2 (some .int), Cond.classLink RX2 39 "java/lang/IllegalArgumentException", Cond.initialized "java/lang/IllegalArgumentException", Cond.fieldLink RX2 28 "SnapshotShelves" "lastVacuum" "I", Cond.fieldLink RX2 24 "SnapshotShelves" "now" "I", Cond.methodLink RX2 35 yX2_enter, Cond.instanceMethod yX2_enter, Cond.selects RX2 yX2_enter yX2_enter, Cond.code yX2_enter cX2_enter 3 (some .int), Cond.classLink RX2 101 "java/lang/UnsupportedOperationException", Cond.initialized "java/lang/UnsupportedOperationException", Cond.fieldLink RX2 20 "SnapshotShelves" "slots" "[LSnapshotShelves$Transaction;", Cond.fieldLink RX2 89 "SnapshotShelves$Transaction" "isLive" "Z", Cond.fieldLink RX2 31 "SnapshotShelves" "begun" "I", Cond.fieldLink RX2 139 "SnapshotShelves$Transaction" "number" "I", Cond.methodLink RX2 135 yX1_reopen, Cond.instanceMethod yX1_reopen, Cond.selects RX1 yX1_reopen yX1_reopen]
def wsL_beginAt_r2 : List Cond := [Cond.initialized RX1, Cond.code yX1_reopen cX1_reopen 3 none, Cond.fieldLink RX1 20 "SnapshotShelves$Transaction" "isLive" "Z", Cond.fieldLink RX1 24 "SnapshotShelves$Transaction" "number" "I", Cond.fieldLink RX1 28 "SnapshotShelves$Transaction" "start" "I", Cond.fieldLink RX1 14 "SnapshotShelves$Transaction" "writes" "LSnapshotShelves$Row;", Cond.fieldLink RX1 31 "SnapshotShelves$Row" "size" "I"]
def wsL_beginAt : List Cond := .codeWith yL_beginAt cL_beginAt 4 (some .int) [(0, 9, 12, 19), (0, 9, 15, 13)] :: ((wsL_beginAt_r1 ++ wsL_beginAt_r2) ++ wsX20 ++ wsX10 ++ wsX00 ++ (vx_atS RX2 43 "java/lang/IllegalArgumentException" ["java/lang/RuntimeException", "java/lang/Exception"]).filter goodWord ++ (vx_atS RX2 105 "java/lang/UnsupportedOperationException" ["java/lang/RuntimeException", "java/lang/Exception"]).filter goodWord)
def wsL_read : List Cond := .codeWith yL_read cL_read 5 (some .int) [(0, 9, 12, 25), (0, 9, 16, 19), (0, 9, 20, 27)] :: ([.classLink RL 25 "java/lang/IllegalStateException", .classLink RL 19 "java/lang/IllegalArgumentException", .classLink RL 27 "java/util/NoSuchElementException", .methodLink RL 21 yX2_read, .instanceMethod yX2_read, .selects RX2 yX2_read yX2_read, .initialized RX2, .code yX2_read cX2_read 6 (some .long), .classLink RX2 64 "java/util/NoSuchElementException", .initialized "java/util/NoSuchElementException", .fieldLink RX2 57 "SnapshotShelves$Transaction" "start" "I", .fieldLink RX2 69 "SnapshotShelves$Row" "values" "[J", .methodLink RX2 46 yX2_liveTransaction, .instanceMethod yX2_liveTransaction, .selects RX2 yX2_liveTransaction yX2_liveTransaction, .code yX2_liveTransaction cX2_liveTransaction 3 (some (.object "SnapshotShelves$Transaction")), .classLink RX2 144 "java/lang/IllegalStateException", .initialized "java/lang/IllegalStateException", .fieldLink RX2 20 "SnapshotShelves" "slots" "[LSnapshotShelves$Transaction;", .fieldLink RX2 89 "SnapshotShelves$Transaction" "isLive" "Z", .fieldLink RX2 139 "SnapshotShelves$Transaction" "number" "I"] ++ wsX10 ++ wsX00 ++ wsX20 ++ (vx_atS RX2 68 "java/util/NoSuchElementException" ["java/lang/RuntimeException", "java/lang/Exception"]).filter goodWord ++ (vx_atS RX2 148 "java/lang/IllegalStateException" ["java/lang/RuntimeException", "java/lang/Exception"]).filter goodWord)
def wsL_law0_r1 : List Cond := [Cond.classLink RL 8 RX2, Cond.instantiable RX2 5, Cond.initialized RX2, Cond.arrayClass .long, Cond.methodLink RL 66 yX2_init, Cond.instanceMethod yX2_init, Cond.code yX2_init cX2_init 2 none, Cond.methodLink RX2 1 objectInit, Cond.instanceMethod objectInit, Cond.code objectInit ⟨#[0xb1]⟩ 1 none, Cond.classLink RX2 7 RX0, Cond.instantiable RX0 5, Cond.initialized RX0, Cond.fieldLink RX2 14 "SnapshotShelves" "shelf" "LSnapshotShelves$Row;", Cond.classLink RX2 18 RX1, Cond.fieldLink RX2 20 "SnapshotShelves" "slots" "[LSnapshotShelves$Transaction;", Cond.fieldLink RX2 24 "SnapshotShelves" "now" "I", Cond.fieldLink RX2 28 "SnapshotShelves" "lastVacuum" "I", Cond.fieldLink RX2 31 "SnapshotShelves" "begun" "I", Cond.instantiable RX1 4, Cond.initialized RX1, Cond.methodLink RX2 11 yX0_init, Cond.instanceMethod yX0_init, Cond.code yX0_init cX0_init 2 none]
def wsL_law0_r2 : List Cond := [Cond.methodLink RX0 3 objectInit, Cond.fieldLink RX0 9 "SnapshotShelves$Row" "size" "I", Cond.arrayClass .int, Cond.fieldLink RX0 15 "SnapshotShelves$Row" "keys" "[I", Cond.fieldLink RX0 19 "SnapshotShelves$Row" "times" "[I", Cond.fieldLink RX0 22 "SnapshotShelves$Row" "values" "[J", Cond.arrayClass .boolean, Cond.fieldLink RX0 26 "SnapshotShelves$Row" "erasures" "[Z", Cond.instanceMethod yX1_init, Cond.code yX1_init cX1_init 1 none, Cond.methodLink RX1 3 objectInit, Cond.classLink RX1 9 RX0, Cond.fieldLink RX1 14 "SnapshotShelves$Transaction" "writes" "LSnapshotShelves$Row;", Cond.fieldLink RX1 20 "SnapshotShelves$Transaction" "isLive" "Z", Cond.fieldLink RX1 24 "SnapshotShelves$Transaction" "number" "I", Cond.fieldLink RX1 28 "SnapshotShelves$Transaction" "start" "I", Cond.methodLink RX1 11 yX0_init, Cond.methodLink RL 70 yL_begin, Cond.static yL_begin, Cond.initialized RL, Cond.codeWith yL_begin cL_begin 3 (some .int) [(0, 8, 11, 13)], Cond.classLink RL 13 "java/lang/UnsupportedOperationException", Cond.methodLink RL 7 yX2_begin, Cond.instanceMethod yX2_begin]
def wsL_law0_r3 : List Cond := [Cond.selects RX2 yX2_begin yX2_begin, Cond.code yX2_begin cX2_begin 1 (some .int), Cond.methodLink RX2 35 yX2_enter, Cond.instanceMethod yX2_enter, Cond.selects RX2 yX2_enter yX2_enter, Cond.code yX2_enter cX2_enter 3 (some .int), Cond.classLink RX2 101 "java/lang/UnsupportedOperationException", Cond.initialized "java/lang/UnsupportedOperationException", Cond.fieldLink RX2 89 "SnapshotShelves$Transaction" "isLive" "Z", Cond.fieldLink RX2 139 "SnapshotShelves$Transaction" "number" "I", Cond.methodLink RX2 135 yX1_reopen, Cond.instanceMethod yX1_reopen, Cond.selects RX1 yX1_reopen yX1_reopen, Cond.code yX1_reopen cX1_reopen 3 none, Cond.fieldLink RX1 31 "SnapshotShelves$Row" "size" "I", Cond.methodLink RL 79 yL_beginAt, Cond.static yL_beginAt, Cond.codeWith yL_beginAt cL_beginAt 4 (some .int) [(0, 9, 12, 19), (0, 9, 15, 13)], Cond.classLink RL 19 "java/lang/IllegalArgumentException", Cond.methodLink RL 15 yX2_beginAt, Cond.instanceMethod yX2_beginAt, Cond.selects RX2 yX2_beginAt yX2_beginAt, Cond.code yX2_beginAt cX2_beginAt 2 (some .int), Cond.classLink RX2 39 "java/lang/IllegalArgumentException"]
def wsL_law0_r4 : List Cond := [Cond.initialized "java/lang/IllegalArgumentException", Cond.methodLink RL 83 yL_read, Cond.static yL_read, Cond.codeWith yL_read cL_read 5 (some .int) [(0, 9, 12, 25), (0, 9, 16, 19), (0, 9, 20, 27)], Cond.classLink RL 25 "java/lang/IllegalStateException", Cond.classLink RL 27 "java/util/NoSuchElementException", Cond.methodLink RL 21 yX2_read, Cond.instanceMethod yX2_read, Cond.selects RX2 yX2_read yX2_read, Cond.code yX2_read cX2_read 6 (some .long), Cond.classLink RX2 64 "java/util/NoSuchElementException", Cond.initialized "java/util/NoSuchElementException", Cond.fieldLink RX2 57 "SnapshotShelves$Transaction" "start" "I", Cond.fieldLink RX2 69 "SnapshotShelves$Row" "values" "[J", Cond.methodLink RX2 46 yX2_liveTransaction, Cond.instanceMethod yX2_liveTransaction, Cond.selects RX2 yX2_liveTransaction yX2_liveTransaction, Cond.code yX2_liveTransaction cX2_liveTransaction 3 (some (.object "SnapshotShelves$Transaction")), Cond.classLink RX2 144 "java/lang/IllegalStateException", Cond.initialized "java/lang/IllegalStateException", Cond.methodLink RL 113 yX2_vacuum, Cond.instanceMethod yX2_vacuum, Cond.selects RX2 yX2_vacuum yX2_vacuum, Cond.code yX2_vacuum cX2_vacuum 3 (some .int)]
def wsL_law0_r5 : List Cond := [Cond.fieldLink RX2 84 "SnapshotShelves$Row" "size" "I", Cond.methodLink RX2 110 yX2_isNeeded, Cond.instanceMethod yX2_isNeeded, Cond.selects RX2 yX2_isNeeded yX2_isNeeded, Cond.code yX2_isNeeded cX2_isNeeded 4 (some .boolean), Cond.fieldLink RX2 117 "SnapshotShelves$Row" "keys" "[I", Cond.methodLink RX2 157 yX0_latest, Cond.instanceMethod yX0_latest, Cond.selects RX0 yX0_latest yX0_latest, Cond.code yX0_latest cX0_latest 4 (some .int), Cond.methodLink RX2 114 yX0_takeAway, Cond.instanceMethod yX0_takeAway, Cond.selects RX0 yX0_takeAway yX0_takeAway, Cond.code yX0_takeAway cX0_takeAway 3 none, Cond.methodLink RL 117 yX2_time, Cond.instanceMethod yX2_time, Cond.selects RX2 yX2_time yX2_time, Cond.code yX2_time cX2_time 1 (some .int), Cond.methodLink RL 121 yX2_live, Cond.instanceMethod yX2_live, Cond.selects RX2 yX2_live yX2_live, Cond.code yX2_live cX2_live 3 (some .int)]
def wsL_law0 : List Cond := (wsL_law0_r1 ++ (wsL_law0_r2 ++ (wsL_law0_r3 ++ (wsL_law0_r4 ++ wsL_law0_r5)))) ++ wsX20 ++ wsX00 ++ wsX10 ++ ([] : List Cond)
def wsL_law : List Cond := wsL_law0 ++ (vx_atS RX2 105 "java/lang/UnsupportedOperationException" ["java/lang/RuntimeException", "java/lang/Exception"]).filter goodWord ++ (vx_atS RX2 43 "java/lang/IllegalArgumentException" ["java/lang/RuntimeException", "java/lang/Exception"]).filter goodWord ++ (vx_atS RX2 68 "java/util/NoSuchElementException" ["java/lang/RuntimeException", "java/lang/Exception"]).filter goodWord ++ (vx_atS RX2 148 "java/lang/IllegalStateException" ["java/lang/RuntimeException", "java/lang/Exception"]).filter goodWord
set_option maxRecDepth 20000 in
theorem wsL_law_in0 : ∀ w ∈ wsL_law0, w ∈ lw_tbl := fun w h => (goodIn_p wsL_law0 [20, 23, 28, 61, 129, 133, 137, 214, 239, 243, 101, 105, 109, 113, 117, 121] (by decide +kernel) (by decide +kernel) w h).1
theorem wsL_law_x0 : ∀ w ∈ (vx_atS RX2 105 "java/lang/UnsupportedOperationException" ["java/lang/RuntimeException", "java/lang/Exception"]).filter goodWord, w ∈ lw_tbl := by decide +kernel
theorem wsL_law_x1 : ∀ w ∈ (vx_atS RX2 43 "java/lang/IllegalArgumentException" ["java/lang/RuntimeException", "java/lang/Exception"]).filter goodWord, w ∈ lw_tbl := by decide +kernel
theorem wsL_law_x2 : ∀ w ∈ (vx_atS RX2 68 "java/util/NoSuchElementException" ["java/lang/RuntimeException", "java/lang/Exception"]).filter goodWord, w ∈ lw_tbl := by decide +kernel
theorem wsL_law_x3 : ∀ w ∈ (vx_atS RX2 148 "java/lang/IllegalStateException" ["java/lang/RuntimeException", "java/lang/Exception"]).filter goodWord, w ∈ lw_tbl := by decide +kernel
theorem wsL_law_in : ∀ w ∈ wsL_law, w ∈ lw_tbl := fun w h => (List.mem_append.mp h).elim (fun h => (List.mem_append.mp h).elim (fun h => (List.mem_append.mp h).elim (fun h => (List.mem_append.mp h).elim (fun h => wsL_law_in0 w h) (fun h => wsL_law_x0 w h)) (fun h => wsL_law_x1 w h)) (fun h => wsL_law_x2 w h)) (fun h => wsL_law_x3 w h)
theorem inlX0 : ∀ w ∈ wsX00, w ∈ wsL_law := fun _ h => List.mem_append_left _ (List.mem_append_left _ (List.mem_append_left _ (List.mem_append_left _ (List.mem_append_left _ (List.mem_append_left _ (List.mem_append_right _ h))))))
theorem inX0 : ∀ w ∈ wsX00, w ∈ lw_tbl := fun w h => wsL_law_in w (inlX0 w h)
theorem inlX1 : ∀ w ∈ wsX10, w ∈ wsL_law := fun _ h => List.mem_append_left _ (List.mem_append_left _ (List.mem_append_left _ (List.mem_append_left _ (List.mem_append_left _ (List.mem_append_right _ h)))))
theorem inX1 : ∀ w ∈ wsX10, w ∈ lw_tbl := fun w h => wsL_law_in w (inlX1 w h)
theorem inlX2 : ∀ w ∈ wsX20, w ∈ wsL_law := fun _ h => List.mem_append_left _ (List.mem_append_left _ (List.mem_append_left _ (List.mem_append_left _ (List.mem_append_left _ (List.mem_append_left _ (List.mem_append_left _ (List.mem_append_right _ h)))))))
theorem inX2 : ∀ w ∈ wsX20, w ∈ lw_tbl := fun w h => wsL_law_in w (inlX2 w h)
theorem inX3 : ∀ w ∈ wsX30, w ∈ lw_tbl := by decide +kernel
theorem inJ0 : ∀ w ∈ wsJ00, w ∈ lw_tbl := by decide +kernel
theorem dX0_init_0 : decode cX0_init 0 = .ok (.aload_n 0, 1) := by decide +kernel
theorem dX0_init_1 : decode cX0_init 1 = .ok (.invokespecial 3, 3) := by decide +kernel
theorem dX0_init_4 : decode cX0_init 4 = .ok (.aload_n 0, 1) := by decide +kernel
theorem dX0_init_5 : decode cX0_init 5 = .ok (.iconst 0, 1) := by decide +kernel
theorem dX0_init_6 : decode cX0_init 6 = .ok (.putfield 9, 3) := by decide +kernel
theorem dX0_init_9 : decode cX0_init 9 = .ok (.aload_n 0, 1) := by decide +kernel
theorem dX0_init_10 : decode cX0_init 10 = .ok (.iload_n 1, 1) := by decide +kernel
theorem dX0_init_11 : decode cX0_init 11 = .ok (.newarray .int, 2) := by decide +kernel
theorem dX0_init_13 : decode cX0_init 13 = .ok (.putfield 15, 3) := by decide +kernel
theorem dX0_init_16 : decode cX0_init 16 = .ok (.aload_n 0, 1) := by decide +kernel
theorem dX0_init_17 : decode cX0_init 17 = .ok (.iload_n 1, 1) := by decide +kernel
theorem dX0_init_18 : decode cX0_init 18 = .ok (.newarray .int, 2) := by decide +kernel
theorem dX0_init_20 : decode cX0_init 20 = .ok (.putfield 19, 3) := by decide +kernel
theorem dX0_init_23 : decode cX0_init 23 = .ok (.aload_n 0, 1) := by decide +kernel
theorem dX0_init_24 : decode cX0_init 24 = .ok (.iload_n 1, 1) := by decide +kernel
theorem dX0_init_25 : decode cX0_init 25 = .ok (.newarray .long, 2) := by decide +kernel
theorem dX0_init_27 : decode cX0_init 27 = .ok (.putfield 22, 3) := by decide +kernel
theorem dX0_init_30 : decode cX0_init 30 = .ok (.aload_n 0, 1) := by decide +kernel
theorem dX0_init_31 : decode cX0_init 31 = .ok (.iload_n 1, 1) := by decide +kernel
theorem dX0_init_32 : decode cX0_init 32 = .ok (.newarray .boolean, 2) := by decide +kernel
theorem dX0_init_34 : decode cX0_init 34 = .ok (.putfield 26, 3) := by decide +kernel
theorem dX0_init_37 : decode cX0_init 37 = .ok (.return_, 1) := by decide +kernel
theorem dX0_takeAway_0 : decode cX0_takeAway 0 = .ok (.iload_n 1, 1) := by decide +kernel
theorem dX0_takeAway_1 : decode cX0_takeAway 1 = .ok (.iconst 1, 1) := by decide +kernel
theorem dX0_takeAway_2 : decode cX0_takeAway 2 = .ok (.iadd, 1) := by decide +kernel
theorem dX0_takeAway_3 : decode cX0_takeAway 3 = .ok (.istore_n 2, 1) := by decide +kernel
theorem dX0_takeAway_4 : decode cX0_takeAway 4 = .ok (.iload_n 2, 1) := by decide +kernel
theorem dX0_takeAway_5 : decode cX0_takeAway 5 = .ok (.aload_n 0, 1) := by decide +kernel
theorem dX0_takeAway_6 : decode cX0_takeAway 6 = .ok (.getfield 9, 3) := by decide +kernel
theorem dX0_takeAway_9 : decode cX0_takeAway 9 = .ok (.if_icmp .ge 65, 3) := by decide +kernel
theorem dX0_takeAway_12 : decode cX0_takeAway 12 = .ok (.aload_n 0, 1) := by decide +kernel
theorem dX0_takeAway_13 : decode cX0_takeAway 13 = .ok (.getfield 15, 3) := by decide +kernel
theorem dX0_takeAway_16 : decode cX0_takeAway 16 = .ok (.iload_n 2, 1) := by decide +kernel
theorem dX0_takeAway_17 : decode cX0_takeAway 17 = .ok (.iconst 1, 1) := by decide +kernel
theorem dX0_takeAway_18 : decode cX0_takeAway 18 = .ok (.isub, 1) := by decide +kernel
theorem dX0_takeAway_19 : decode cX0_takeAway 19 = .ok (.aload_n 0, 1) := by decide +kernel
theorem dX0_takeAway_20 : decode cX0_takeAway 20 = .ok (.getfield 15, 3) := by decide +kernel
theorem dX0_takeAway_23 : decode cX0_takeAway 23 = .ok (.iload_n 2, 1) := by decide +kernel
theorem dX0_takeAway_24 : decode cX0_takeAway 24 = .ok (.iaload, 1) := by decide +kernel
theorem dX0_takeAway_25 : decode cX0_takeAway 25 = .ok (.iastore, 1) := by decide +kernel
theorem dX0_takeAway_26 : decode cX0_takeAway 26 = .ok (.aload_n 0, 1) := by decide +kernel
theorem dX0_takeAway_27 : decode cX0_takeAway 27 = .ok (.getfield 19, 3) := by decide +kernel
theorem dX0_takeAway_30 : decode cX0_takeAway 30 = .ok (.iload_n 2, 1) := by decide +kernel
theorem dX0_takeAway_31 : decode cX0_takeAway 31 = .ok (.iconst 1, 1) := by decide +kernel
theorem dX0_takeAway_32 : decode cX0_takeAway 32 = .ok (.isub, 1) := by decide +kernel
theorem dX0_takeAway_33 : decode cX0_takeAway 33 = .ok (.aload_n 0, 1) := by decide +kernel
theorem dX0_takeAway_34 : decode cX0_takeAway 34 = .ok (.getfield 19, 3) := by decide +kernel
theorem dX0_takeAway_37 : decode cX0_takeAway 37 = .ok (.iload_n 2, 1) := by decide +kernel
theorem dX0_takeAway_38 : decode cX0_takeAway 38 = .ok (.iaload, 1) := by decide +kernel
theorem dX0_takeAway_39 : decode cX0_takeAway 39 = .ok (.iastore, 1) := by decide +kernel
theorem dX0_takeAway_40 : decode cX0_takeAway 40 = .ok (.aload_n 0, 1) := by decide +kernel
theorem dX0_takeAway_41 : decode cX0_takeAway 41 = .ok (.getfield 22, 3) := by decide +kernel
theorem dX0_takeAway_44 : decode cX0_takeAway 44 = .ok (.iload_n 2, 1) := by decide +kernel
theorem dX0_takeAway_45 : decode cX0_takeAway 45 = .ok (.iconst 1, 1) := by decide +kernel
theorem dX0_takeAway_46 : decode cX0_takeAway 46 = .ok (.isub, 1) := by decide +kernel
theorem dX0_takeAway_47 : decode cX0_takeAway 47 = .ok (.aload_n 0, 1) := by decide +kernel
theorem dX0_takeAway_48 : decode cX0_takeAway 48 = .ok (.getfield 22, 3) := by decide +kernel
theorem dX0_takeAway_51 : decode cX0_takeAway 51 = .ok (.iload_n 2, 1) := by decide +kernel
theorem dX0_takeAway_52 : decode cX0_takeAway 52 = .ok (.laload, 1) := by decide +kernel
theorem dX0_takeAway_53 : decode cX0_takeAway 53 = .ok (.lastore, 1) := by decide +kernel
theorem dX0_takeAway_54 : decode cX0_takeAway 54 = .ok (.aload_n 0, 1) := by decide +kernel
theorem dX0_takeAway_55 : decode cX0_takeAway 55 = .ok (.getfield 26, 3) := by decide +kernel
theorem dX0_takeAway_58 : decode cX0_takeAway 58 = .ok (.iload_n 2, 1) := by decide +kernel
theorem dX0_takeAway_59 : decode cX0_takeAway 59 = .ok (.iconst 1, 1) := by decide +kernel
theorem dX0_takeAway_60 : decode cX0_takeAway 60 = .ok (.isub, 1) := by decide +kernel
theorem dX0_takeAway_61 : decode cX0_takeAway 61 = .ok (.aload_n 0, 1) := by decide +kernel
theorem dX0_takeAway_62 : decode cX0_takeAway 62 = .ok (.getfield 26, 3) := by decide +kernel
theorem dX0_takeAway_65 : decode cX0_takeAway 65 = .ok (.iload_n 2, 1) := by decide +kernel
theorem dX0_takeAway_66 : decode cX0_takeAway 66 = .ok (.baload, 1) := by decide +kernel
theorem dX0_takeAway_67 : decode cX0_takeAway 67 = .ok (.bastore, 1) := by decide +kernel
theorem dX0_takeAway_68 : decode cX0_takeAway 68 = .ok (.iinc 2 1, 3) := by decide +kernel
theorem dX0_takeAway_71 : decode cX0_takeAway 71 = .ok (.goto (-67), 3) := by decide +kernel
theorem dX0_takeAway_74 : decode cX0_takeAway 74 = .ok (.aload_n 0, 1) := by decide +kernel
theorem dX0_takeAway_75 : decode cX0_takeAway 75 = .ok (.dup, 1) := by decide +kernel
theorem dX0_takeAway_76 : decode cX0_takeAway 76 = .ok (.getfield 9, 3) := by decide +kernel
theorem dX0_takeAway_79 : decode cX0_takeAway 79 = .ok (.iconst 1, 1) := by decide +kernel
theorem dX0_takeAway_80 : decode cX0_takeAway 80 = .ok (.isub, 1) := by decide +kernel
theorem dX0_takeAway_81 : decode cX0_takeAway 81 = .ok (.putfield 9, 3) := by decide +kernel
theorem dX0_takeAway_84 : decode cX0_takeAway 84 = .ok (.return_, 1) := by decide +kernel
theorem dX0_latest_0 : decode cX0_latest 0 = .ok (.aload_n 0, 1) := by decide +kernel
theorem dX0_latest_1 : decode cX0_latest 1 = .ok (.getfield 9, 3) := by decide +kernel
theorem dX0_latest_4 : decode cX0_latest 4 = .ok (.iconst 1, 1) := by decide +kernel
theorem dX0_latest_5 : decode cX0_latest 5 = .ok (.isub, 1) := by decide +kernel
theorem dX0_latest_6 : decode cX0_latest 6 = .ok (.istore_n 3, 1) := by decide +kernel
theorem dX0_latest_7 : decode cX0_latest 7 = .ok (.iload_n 3, 1) := by decide +kernel
theorem dX0_latest_8 : decode cX0_latest 8 = .ok (.ifCond .lt 31, 3) := by decide +kernel
theorem dX0_latest_11 : decode cX0_latest 11 = .ok (.aload_n 0, 1) := by decide +kernel
theorem dX0_latest_12 : decode cX0_latest 12 = .ok (.getfield 15, 3) := by decide +kernel
theorem dX0_latest_15 : decode cX0_latest 15 = .ok (.iload_n 3, 1) := by decide +kernel
theorem dX0_latest_16 : decode cX0_latest 16 = .ok (.iaload, 1) := by decide +kernel
theorem dX0_latest_17 : decode cX0_latest 17 = .ok (.iload_n 1, 1) := by decide +kernel
theorem dX0_latest_18 : decode cX0_latest 18 = .ok (.if_icmp .ne 15, 3) := by decide +kernel
theorem dX0_latest_21 : decode cX0_latest 21 = .ok (.aload_n 0, 1) := by decide +kernel
theorem dX0_latest_22 : decode cX0_latest 22 = .ok (.getfield 19, 3) := by decide +kernel
theorem dX0_latest_25 : decode cX0_latest 25 = .ok (.iload_n 3, 1) := by decide +kernel
theorem dX0_latest_26 : decode cX0_latest 26 = .ok (.iaload, 1) := by decide +kernel
theorem dX0_latest_27 : decode cX0_latest 27 = .ok (.iload_n 2, 1) := by decide +kernel
theorem dX0_latest_28 : decode cX0_latest 28 = .ok (.if_icmp .gt 5, 3) := by decide +kernel
theorem dX0_latest_31 : decode cX0_latest 31 = .ok (.iload_n 3, 1) := by decide +kernel
theorem dX0_latest_32 : decode cX0_latest 32 = .ok (.ireturn, 1) := by decide +kernel
theorem dX0_latest_33 : decode cX0_latest 33 = .ok (.iinc 3 (-1), 3) := by decide +kernel
theorem dX0_latest_36 : decode cX0_latest 36 = .ok (.goto (-29), 3) := by decide +kernel
theorem dX0_latest_39 : decode cX0_latest 39 = .ok (.iconst (-1), 1) := by decide +kernel
theorem dX0_latest_40 : decode cX0_latest 40 = .ok (.ireturn, 1) := by decide +kernel
set_option maxRecDepth 20000 in
theorem ggX1_init_X0_init : GoodIn wsX1_init wsX0_init := goodIn_r _ [13, 14, 2, 3, 15, 16, 17, 18, 19, 20, 21, 22, 23, 24, 25, 26, 27] (by decide +kernel) (by decide +kernel)
set_option maxRecDepth 20000 in
theorem gX1_init_X0_init : GoodIn wsX1_init (wsX0_init) := ggX1_init_X0_init
theorem dX1_init_0 : decode cX1_init 0 = .ok (.aload_n 0, 1) := by decide +kernel
theorem dX1_init_1 : decode cX1_init 1 = .ok (.invokespecial 3, 3) := by decide +kernel
theorem dX1_init_4 : decode cX1_init 4 = .ok (.aload_n 0, 1) := by decide +kernel
theorem dX1_init_5 : decode cX1_init 5 = .ok (.new 9, 3) := by decide +kernel
theorem dX1_init_8 : decode cX1_init 8 = .ok (.dup, 1) := by decide +kernel
theorem dX1_init_9 : decode cX1_init 9 = .ok (.bipush 12, 2) := by decide +kernel
theorem dX1_init_11 : decode cX1_init 11 = .ok (.invokespecial 11, 3) := by decide +kernel
theorem dX1_init_14 : decode cX1_init 14 = .ok (.putfield 14, 3) := by decide +kernel
theorem dX1_init_17 : decode cX1_init 17 = .ok (.aload_n 0, 1) := by decide +kernel
theorem dX1_init_18 : decode cX1_init 18 = .ok (.iconst 0, 1) := by decide +kernel
theorem dX1_init_19 : decode cX1_init 19 = .ok (.putfield 20, 3) := by decide +kernel
theorem dX1_init_22 : decode cX1_init 22 = .ok (.aload_n 0, 1) := by decide +kernel
theorem dX1_init_23 : decode cX1_init 23 = .ok (.iconst 0, 1) := by decide +kernel
theorem dX1_init_24 : decode cX1_init 24 = .ok (.putfield 24, 3) := by decide +kernel
theorem dX1_init_27 : decode cX1_init 27 = .ok (.aload_n 0, 1) := by decide +kernel
theorem dX1_init_28 : decode cX1_init 28 = .ok (.iconst 0, 1) := by decide +kernel
theorem dX1_init_29 : decode cX1_init 29 = .ok (.putfield 28, 3) := by decide +kernel
theorem dX1_init_32 : decode cX1_init 32 = .ok (.return_, 1) := by decide +kernel
theorem dX1_reopen_0 : decode cX1_reopen 0 = .ok (.aload_n 0, 1) := by decide +kernel
theorem dX1_reopen_1 : decode cX1_reopen 1 = .ok (.iconst 1, 1) := by decide +kernel
theorem dX1_reopen_2 : decode cX1_reopen 2 = .ok (.putfield 20, 3) := by decide +kernel
theorem dX1_reopen_5 : decode cX1_reopen 5 = .ok (.aload_n 0, 1) := by decide +kernel
theorem dX1_reopen_6 : decode cX1_reopen 6 = .ok (.iload_n 1, 1) := by decide +kernel
theorem dX1_reopen_7 : decode cX1_reopen 7 = .ok (.putfield 24, 3) := by decide +kernel
theorem dX1_reopen_10 : decode cX1_reopen 10 = .ok (.aload_n 0, 1) := by decide +kernel
theorem dX1_reopen_11 : decode cX1_reopen 11 = .ok (.iload_n 2, 1) := by decide +kernel
theorem dX1_reopen_12 : decode cX1_reopen 12 = .ok (.putfield 28, 3) := by decide +kernel
theorem dX1_reopen_15 : decode cX1_reopen 15 = .ok (.aload_n 0, 1) := by decide +kernel
theorem dX1_reopen_16 : decode cX1_reopen 16 = .ok (.getfield 14, 3) := by decide +kernel
theorem dX1_reopen_19 : decode cX1_reopen 19 = .ok (.iconst 0, 1) := by decide +kernel
theorem dX1_reopen_20 : decode cX1_reopen 20 = .ok (.putfield 31, 3) := by decide +kernel
theorem dX1_reopen_23 : decode cX1_reopen 23 = .ok (.return_, 1) := by decide +kernel
set_option maxRecDepth 20000 in
theorem ggX2_init_X0_init : GoodIn wsX2_init wsX0_init := goodIn_r _ [17, 18, 2, 3, 19, 20, 21, 22, 23, 24, 25, 26, 36, 37, 38, 39, 40] (by decide +kernel) (by decide +kernel)
set_option maxRecDepth 20000 in
theorem gX2_init_X0_init : GoodIn wsX2_init (wsX0_init) := ggX2_init_X0_init
set_option maxRecDepth 20000 in
theorem ggX2_init_X1_init : GoodIn wsX2_init wsX1_init := goodIn_r _ [28, 29, 2, 3, 30, 5, 6, 31, 32, 33, 34, 35, 16, 17, 18, 19, 20, 21, 22, 23, 24, 25, 26, 36, 37, 38, 39, 40, 46, 47, 48, 49] (by decide +kernel) (by decide +kernel)
set_option maxRecDepth 20000 in
theorem gX2_init_X1_init_n34 : GoodIn wsX2_init (wsX1_init) := ggX2_init_X1_init
theorem dX2_init_0 : decode cX2_init 0 = .ok (.aload_n 0, 1) := by decide +kernel
theorem dX2_init_1 : decode cX2_init 1 = .ok (.invokespecial 1, 3) := by decide +kernel
theorem dX2_init_4 : decode cX2_init 4 = .ok (.aload_n 0, 1) := by decide +kernel
theorem dX2_init_5 : decode cX2_init 5 = .ok (.new 7, 3) := by decide +kernel
theorem dX2_init_8 : decode cX2_init 8 = .ok (.dup, 1) := by decide +kernel
theorem dX2_init_9 : decode cX2_init 9 = .ok (.bipush 48, 2) := by decide +kernel
theorem dX2_init_11 : decode cX2_init 11 = .ok (.invokespecial 11, 3) := by decide +kernel
theorem dX2_init_14 : decode cX2_init 14 = .ok (.putfield 14, 3) := by decide +kernel
theorem dX2_init_17 : decode cX2_init 17 = .ok (.aload_n 0, 1) := by decide +kernel
theorem dX2_init_18 : decode cX2_init 18 = .ok (.bipush 6, 2) := by decide +kernel
theorem dX2_init_20 : decode cX2_init 20 = .ok (.anewarray 18, 3) := by decide +kernel
theorem dX2_init_23 : decode cX2_init 23 = .ok (.putfield 20, 3) := by decide +kernel
theorem dX2_init_26 : decode cX2_init 26 = .ok (.aload_n 0, 1) := by decide +kernel
theorem dX2_init_27 : decode cX2_init 27 = .ok (.iconst 0, 1) := by decide +kernel
theorem dX2_init_28 : decode cX2_init 28 = .ok (.putfield 24, 3) := by decide +kernel
theorem dX2_init_31 : decode cX2_init 31 = .ok (.aload_n 0, 1) := by decide +kernel
theorem dX2_init_32 : decode cX2_init 32 = .ok (.iconst 0, 1) := by decide +kernel
theorem dX2_init_33 : decode cX2_init 33 = .ok (.putfield 28, 3) := by decide +kernel
theorem dX2_init_36 : decode cX2_init 36 = .ok (.aload_n 0, 1) := by decide +kernel
theorem dX2_init_37 : decode cX2_init 37 = .ok (.iconst 0, 1) := by decide +kernel
theorem dX2_init_38 : decode cX2_init 38 = .ok (.putfield 31, 3) := by decide +kernel
theorem dX2_init_41 : decode cX2_init 41 = .ok (.iconst 0, 1) := by decide +kernel
theorem dX2_init_42 : decode cX2_init 42 = .ok (.istore_n 1, 1) := by decide +kernel
theorem dX2_init_43 : decode cX2_init 43 = .ok (.iload_n 1, 1) := by decide +kernel
theorem dX2_init_44 : decode cX2_init 44 = .ok (.aload_n 0, 1) := by decide +kernel
theorem dX2_init_45 : decode cX2_init 45 = .ok (.getfield 20, 3) := by decide +kernel
theorem dX2_init_48 : decode cX2_init 48 = .ok (.arraylength, 1) := by decide +kernel
theorem dX2_init_49 : decode cX2_init 49 = .ok (.if_icmp .ge 22, 3) := by decide +kernel
theorem dX2_init_52 : decode cX2_init 52 = .ok (.aload_n 0, 1) := by decide +kernel
theorem dX2_init_53 : decode cX2_init 53 = .ok (.getfield 20, 3) := by decide +kernel
theorem dX2_init_56 : decode cX2_init 56 = .ok (.iload_n 1, 1) := by decide +kernel
theorem dX2_init_57 : decode cX2_init 57 = .ok (.new 18, 3) := by decide +kernel
theorem dX2_init_60 : decode cX2_init 60 = .ok (.dup, 1) := by decide +kernel
theorem dX2_init_61 : decode cX2_init 61 = .ok (.invokespecial 34, 3) := by decide +kernel
theorem dX2_init_64 : decode cX2_init 64 = .ok (.aastore, 1) := by decide +kernel
theorem dX2_init_65 : decode cX2_init 65 = .ok (.iinc 1 1, 3) := by decide +kernel
theorem dX2_init_68 : decode cX2_init 68 = .ok (.goto (-25), 3) := by decide +kernel
theorem dX2_init_71 : decode cX2_init 71 = .ok (.return_, 1) := by decide +kernel
set_option maxRecDepth 20000 in
theorem ggX2_begin_X2_enter : GoodIn wsX2_begin wsX2_enter := goodIn_ca (goodIn_r _ [6, 7, 8, 9, 10, 11, 12, 13, 14, 15, 16, 17, 18, 19, 20, 21, 22, 23, 24, 25, 26, 27, 28, 29, 30, 31, 32, 33, 34, 35, 36] (by decide +kernel) (by decide +kernel)) (goodIn_sub (fun _ h => List.mem_cons_of_mem _ (List.mem_append_right _ h)) (by decide +kernel))
set_option maxRecDepth 20000 in
theorem gX2_begin_X2_enter : GoodIn wsX2_begin (wsV RX2 35 RX2 yX2_enter wsX2_enter) := goodIn_app (goodIn_of _ (by decide +kernel)) ggX2_begin_X2_enter
theorem dX2_begin_0 : decode cX2_begin 0 = .ok (.aload_n 0, 1) := by decide +kernel
theorem dX2_begin_1 : decode cX2_begin 1 = .ok (.aload_n 0, 1) := by decide +kernel
theorem dX2_begin_2 : decode cX2_begin 2 = .ok (.getfield 24, 3) := by decide +kernel
theorem dX2_begin_5 : decode cX2_begin 5 = .ok (.invokevirtual 35, 3) := by decide +kernel
theorem dX2_begin_8 : decode cX2_begin 8 = .ok (.ireturn, 1) := by decide +kernel
set_option maxRecDepth 20000 in
theorem ggX2_beginAt_X2_enter : GoodIn wsX2_beginAt wsX2_enter := goodIn_ca (goodIn_r _ [9, 10, 11, 12, 13, 14, 15, 16, 17, 18, 19, 20, 21, 22, 23, 24, 25, 26, 27, 28, 29, 30, 31, 32, 33, 34, 35, 36, 37, 38, 39] (by decide +kernel) (by decide +kernel)) (goodIn_sub (fun _ h => List.mem_cons_of_mem _ (List.mem_append_right _ h)) (by decide +kernel))
set_option maxRecDepth 20000 in
theorem gX2_beginAt_X2_enter : GoodIn wsX2_beginAt (wsV RX2 35 RX2 yX2_enter wsX2_enter) := goodIn_app (goodIn_of _ (by decide +kernel)) ggX2_beginAt_X2_enter
theorem dX2_beginAt_0 : decode cX2_beginAt 0 = .ok (.iload_n 1, 1) := by decide +kernel
theorem dX2_beginAt_1 : decode cX2_beginAt 1 = .ok (.aload_n 0, 1) := by decide +kernel
theorem dX2_beginAt_2 : decode cX2_beginAt 2 = .ok (.getfield 28, 3) := by decide +kernel
theorem dX2_beginAt_5 : decode cX2_beginAt 5 = .ok (.if_icmp .lt 11, 3) := by decide +kernel
theorem dX2_beginAt_8 : decode cX2_beginAt 8 = .ok (.iload_n 1, 1) := by decide +kernel
theorem dX2_beginAt_9 : decode cX2_beginAt 9 = .ok (.aload_n 0, 1) := by decide +kernel
theorem dX2_beginAt_10 : decode cX2_beginAt 10 = .ok (.getfield 24, 3) := by decide +kernel
theorem dX2_beginAt_13 : decode cX2_beginAt 13 = .ok (.if_icmp .le 13, 3) := by decide +kernel
theorem dX2_beginAt_16 : decode cX2_beginAt 16 = .ok (.new 39, 3) := by decide +kernel
theorem dX2_beginAt_19 : decode cX2_beginAt 19 = .ok (.dup, 1) := by decide +kernel
theorem dX2_beginAt_20 : decode cX2_beginAt 20 = .ok (.ldc 41, 2) := by decide +kernel
theorem dX2_beginAt_22 : decode cX2_beginAt 22 = .ok (.invokespecial 43, 3) := by decide +kernel
theorem dX2_beginAt_25 : decode cX2_beginAt 25 = .ok (.athrow, 1) := by decide +kernel
theorem dX2_beginAt_26 : decode cX2_beginAt 26 = .ok (.aload_n 0, 1) := by decide +kernel
theorem dX2_beginAt_27 : decode cX2_beginAt 27 = .ok (.iload_n 1, 1) := by decide +kernel
theorem dX2_beginAt_28 : decode cX2_beginAt 28 = .ok (.invokevirtual 35, 3) := by decide +kernel
theorem dX2_beginAt_31 : decode cX2_beginAt 31 = .ok (.ireturn, 1) := by decide +kernel
set_option maxRecDepth 20000 in
theorem ggX2_read_X2_liveTransaction : GoodIn wsX2_read wsX2_liveTransaction := goodIn_ca (goodIn_r _ [9, 10, 11, 12, 13, 14, 24, 25, 26, 27, 28, 15, 16, 17, 18] (by decide +kernel) (by decide +kernel)) (goodIn_sub (fun _ h => List.mem_cons_of_mem _ (List.mem_append_right _ h)) (by decide +kernel))
set_option maxRecDepth 20000 in
theorem gX2_read_X2_liveTransaction : GoodIn wsX2_read (wsV RX2 46 RX2 yX2_liveTransaction wsX2_liveTransaction) := goodIn_app (goodIn_of _ (by decide +kernel)) ggX2_read_X2_liveTransaction
theorem dX2_read_0 : decode cX2_read 0 = .ok (.aload_n 0, 1) := by decide +kernel
theorem dX2_read_1 : decode cX2_read 1 = .ok (.iload_n 1, 1) := by decide +kernel
theorem dX2_read_2 : decode cX2_read 2 = .ok (.invokevirtual 46, 3) := by decide +kernel
theorem dX2_read_5 : decode cX2_read 5 = .ok (.astore_n 3, 1) := by decide +kernel
theorem dX2_read_6 : decode cX2_read 6 = .ok (.iload_n 2, 1) := by decide +kernel
theorem dX2_read_7 : decode cX2_read 7 = .ok (.invokestatic 50, 3) := by decide +kernel
theorem dX2_read_10 : decode cX2_read 10 = .ok (.aload_n 0, 1) := by decide +kernel
theorem dX2_read_11 : decode cX2_read 11 = .ok (.aload_n 3, 1) := by decide +kernel
theorem dX2_read_12 : decode cX2_read 12 = .ok (.iload_n 2, 1) := by decide +kernel
theorem dX2_read_13 : decode cX2_read 13 = .ok (.invokevirtual 53, 3) := by decide +kernel
theorem dX2_read_16 : decode cX2_read 16 = .ok (.astore 4, 2) := by decide +kernel
theorem dX2_read_18 : decode cX2_read 18 = .ok (.aload 4, 2) := by decide +kernel
theorem dX2_read_20 : decode cX2_read 20 = .ok (.iload_n 2, 1) := by decide +kernel
theorem dX2_read_21 : decode cX2_read 21 = .ok (.aload_n 3, 1) := by decide +kernel
theorem dX2_read_22 : decode cX2_read 22 = .ok (.getfield 57, 3) := by decide +kernel
theorem dX2_read_25 : decode cX2_read 25 = .ok (.invokevirtual 60, 3) := by decide +kernel
theorem dX2_read_28 : decode cX2_read 28 = .ok (.istore 5, 2) := by decide +kernel
theorem dX2_read_30 : decode cX2_read 30 = .ok (.iload 5, 2) := by decide +kernel
theorem dX2_read_32 : decode cX2_read 32 = .ok (.iconst (-1), 1) := by decide +kernel
theorem dX2_read_33 : decode cX2_read 33 = .ok (.if_icmp .ne 13, 3) := by decide +kernel
theorem dX2_read_36 : decode cX2_read 36 = .ok (.new 64, 3) := by decide +kernel
theorem dX2_read_39 : decode cX2_read 39 = .ok (.dup, 1) := by decide +kernel
theorem dX2_read_40 : decode cX2_read 40 = .ok (.ldc 66, 2) := by decide +kernel
theorem dX2_read_42 : decode cX2_read 42 = .ok (.invokespecial 68, 3) := by decide +kernel
theorem dX2_read_45 : decode cX2_read 45 = .ok (.athrow, 1) := by decide +kernel
theorem dX2_read_46 : decode cX2_read 46 = .ok (.aload 4, 2) := by decide +kernel
theorem dX2_read_48 : decode cX2_read 48 = .ok (.getfield 69, 3) := by decide +kernel
theorem dX2_read_51 : decode cX2_read 51 = .ok (.iload 5, 2) := by decide +kernel
theorem dX2_read_53 : decode cX2_read 53 = .ok (.laload, 1) := by decide +kernel
theorem dX2_read_54 : decode cX2_read 54 = .ok (.lreturn, 1) := by decide +kernel
set_option maxRecDepth 20000 in
theorem ggX2_vacuum_X2_isNeeded : GoodIn wsX2_vacuum wsX2_isNeeded := goodIn_r _ [9, 1, 10, 3, 11, 12, 13, 14, 15, 16, 17, 18, 19, 20, 21, 28, 29, 30, 31, 32, 33, 34, 35, 36, 37, 38, 39, 40, 41] (by decide +kernel) (by decide +kernel)
set_option maxRecDepth 20000 in
theorem gX2_vacuum_X2_isNeeded : GoodIn wsX2_vacuum (wsV RX2 110 RX2 yX2_isNeeded wsX2_isNeeded) := goodIn_app (goodIn_of _ (by decide +kernel)) ggX2_vacuum_X2_isNeeded
set_option maxRecDepth 20000 in
theorem ggX2_vacuum_X0_takeAway : GoodIn wsX2_vacuum wsX0_takeAway := goodIn_r _ [25, 19, 20, 21, 26, 27, 33, 34, 35, 36, 37] (by decide +kernel) (by decide +kernel)
set_option maxRecDepth 20000 in
theorem gX2_vacuum_X0_takeAway : GoodIn wsX2_vacuum (wsV RX2 114 RX0 yX0_takeAway wsX0_takeAway) := goodIn_app (goodIn_of _ (by decide +kernel)) ggX2_vacuum_X0_takeAway
theorem dX2_vacuum_0 : decode cX2_vacuum 0 = .ok (.iconst 0, 1) := by decide +kernel
theorem dX2_vacuum_1 : decode cX2_vacuum 1 = .ok (.istore_n 1, 1) := by decide +kernel
theorem dX2_vacuum_2 : decode cX2_vacuum 2 = .ok (.aload_n 0, 1) := by decide +kernel
theorem dX2_vacuum_3 : decode cX2_vacuum 3 = .ok (.getfield 14, 3) := by decide +kernel
theorem dX2_vacuum_6 : decode cX2_vacuum 6 = .ok (.getfield 84, 3) := by decide +kernel
theorem dX2_vacuum_9 : decode cX2_vacuum 9 = .ok (.iconst 1, 1) := by decide +kernel
theorem dX2_vacuum_10 : decode cX2_vacuum 10 = .ok (.isub, 1) := by decide +kernel
theorem dX2_vacuum_11 : decode cX2_vacuum 11 = .ok (.istore_n 2, 1) := by decide +kernel
theorem dX2_vacuum_12 : decode cX2_vacuum 12 = .ok (.iload_n 2, 1) := by decide +kernel
theorem dX2_vacuum_13 : decode cX2_vacuum 13 = .ok (.ifCond .lt 28, 3) := by decide +kernel
theorem dX2_vacuum_16 : decode cX2_vacuum 16 = .ok (.aload_n 0, 1) := by decide +kernel
theorem dX2_vacuum_17 : decode cX2_vacuum 17 = .ok (.iload_n 2, 1) := by decide +kernel
theorem dX2_vacuum_18 : decode cX2_vacuum 18 = .ok (.invokevirtual 110, 3) := by decide +kernel
theorem dX2_vacuum_21 : decode cX2_vacuum 21 = .ok (.ifCond .ne 14, 3) := by decide +kernel
theorem dX2_vacuum_24 : decode cX2_vacuum 24 = .ok (.aload_n 0, 1) := by decide +kernel
theorem dX2_vacuum_25 : decode cX2_vacuum 25 = .ok (.getfield 14, 3) := by decide +kernel
theorem dX2_vacuum_28 : decode cX2_vacuum 28 = .ok (.iload_n 2, 1) := by decide +kernel
theorem dX2_vacuum_29 : decode cX2_vacuum 29 = .ok (.invokevirtual 114, 3) := by decide +kernel
theorem dX2_vacuum_32 : decode cX2_vacuum 32 = .ok (.iinc 1 1, 3) := by decide +kernel
theorem dX2_vacuum_35 : decode cX2_vacuum 35 = .ok (.iinc 2 (-1), 3) := by decide +kernel
theorem dX2_vacuum_38 : decode cX2_vacuum 38 = .ok (.goto (-26), 3) := by decide +kernel
theorem dX2_vacuum_41 : decode cX2_vacuum 41 = .ok (.aload_n 0, 1) := by decide +kernel
theorem dX2_vacuum_42 : decode cX2_vacuum 42 = .ok (.aload_n 0, 1) := by decide +kernel
theorem dX2_vacuum_43 : decode cX2_vacuum 43 = .ok (.getfield 24, 3) := by decide +kernel
theorem dX2_vacuum_46 : decode cX2_vacuum 46 = .ok (.putfield 28, 3) := by decide +kernel
theorem dX2_vacuum_49 : decode cX2_vacuum 49 = .ok (.iload_n 1, 1) := by decide +kernel
theorem dX2_vacuum_50 : decode cX2_vacuum 50 = .ok (.ireturn, 1) := by decide +kernel
theorem dX2_time_0 : decode cX2_time 0 = .ok (.aload_n 0, 1) := by decide +kernel
theorem dX2_time_1 : decode cX2_time 1 = .ok (.getfield 24, 3) := by decide +kernel
theorem dX2_time_4 : decode cX2_time 4 = .ok (.ireturn, 1) := by decide +kernel
theorem dX2_live_0 : decode cX2_live 0 = .ok (.iconst 0, 1) := by decide +kernel
theorem dX2_live_1 : decode cX2_live 1 = .ok (.istore_n 1, 1) := by decide +kernel
theorem dX2_live_2 : decode cX2_live 2 = .ok (.iconst 0, 1) := by decide +kernel
theorem dX2_live_3 : decode cX2_live 3 = .ok (.istore_n 2, 1) := by decide +kernel
theorem dX2_live_4 : decode cX2_live 4 = .ok (.iload_n 2, 1) := by decide +kernel
theorem dX2_live_5 : decode cX2_live 5 = .ok (.aload_n 0, 1) := by decide +kernel
theorem dX2_live_6 : decode cX2_live 6 = .ok (.getfield 20, 3) := by decide +kernel
theorem dX2_live_9 : decode cX2_live 9 = .ok (.arraylength, 1) := by decide +kernel
theorem dX2_live_10 : decode cX2_live 10 = .ok (.if_icmp .ge 24, 3) := by decide +kernel
theorem dX2_live_13 : decode cX2_live 13 = .ok (.aload_n 0, 1) := by decide +kernel
theorem dX2_live_14 : decode cX2_live 14 = .ok (.getfield 20, 3) := by decide +kernel
theorem dX2_live_17 : decode cX2_live 17 = .ok (.iload_n 2, 1) := by decide +kernel
theorem dX2_live_18 : decode cX2_live 18 = .ok (.aaload, 1) := by decide +kernel
theorem dX2_live_19 : decode cX2_live 19 = .ok (.getfield 89, 3) := by decide +kernel
theorem dX2_live_22 : decode cX2_live 22 = .ok (.ifCond .eq 6, 3) := by decide +kernel
theorem dX2_live_25 : decode cX2_live 25 = .ok (.iinc 1 1, 3) := by decide +kernel
theorem dX2_live_28 : decode cX2_live 28 = .ok (.iinc 2 1, 3) := by decide +kernel
theorem dX2_live_31 : decode cX2_live 31 = .ok (.goto (-27), 3) := by decide +kernel
theorem dX2_live_34 : decode cX2_live 34 = .ok (.iload_n 1, 1) := by decide +kernel
theorem dX2_live_35 : decode cX2_live 35 = .ok (.ireturn, 1) := by decide +kernel
set_option maxRecDepth 20000 in
theorem ggX2_enter_X1_reopen : GoodIn wsX2_enter wsX1_reopen := goodIn_r _ [11, 12, 13, 14, 15, 16, 22, 23, 24, 25, 26, 27, 28, 29, 30] (by decide +kernel) (by decide +kernel)
set_option maxRecDepth 20000 in
theorem gX2_enter_X1_reopen : GoodIn wsX2_enter (wsV RX2 135 RX1 yX1_reopen wsX1_reopen) := goodIn_app (goodIn_of _ (by decide +kernel)) ggX2_enter_X1_reopen
theorem dX2_enter_0 : decode cX2_enter 0 = .ok (.iconst 0, 1) := by decide +kernel
theorem dX2_enter_1 : decode cX2_enter 1 = .ok (.istore_n 2, 1) := by decide +kernel
theorem dX2_enter_2 : decode cX2_enter 2 = .ok (.iload_n 2, 1) := by decide +kernel
theorem dX2_enter_3 : decode cX2_enter 3 = .ok (.aload_n 0, 1) := by decide +kernel
theorem dX2_enter_4 : decode cX2_enter 4 = .ok (.getfield 20, 3) := by decide +kernel
theorem dX2_enter_7 : decode cX2_enter 7 = .ok (.arraylength, 1) := by decide +kernel
theorem dX2_enter_8 : decode cX2_enter 8 = .ok (.if_icmp .ge 55, 3) := by decide +kernel
theorem dX2_enter_11 : decode cX2_enter 11 = .ok (.aload_n 0, 1) := by decide +kernel
theorem dX2_enter_12 : decode cX2_enter 12 = .ok (.getfield 20, 3) := by decide +kernel
theorem dX2_enter_15 : decode cX2_enter 15 = .ok (.iload_n 2, 1) := by decide +kernel
theorem dX2_enter_16 : decode cX2_enter 16 = .ok (.aaload, 1) := by decide +kernel
theorem dX2_enter_17 : decode cX2_enter 17 = .ok (.getfield 89, 3) := by decide +kernel
theorem dX2_enter_20 : decode cX2_enter 20 = .ok (.ifCond .ne 37, 3) := by decide +kernel
theorem dX2_enter_23 : decode cX2_enter 23 = .ok (.aload_n 0, 1) := by decide +kernel
theorem dX2_enter_24 : decode cX2_enter 24 = .ok (.getfield 20, 3) := by decide +kernel
theorem dX2_enter_27 : decode cX2_enter 27 = .ok (.iload_n 2, 1) := by decide +kernel
theorem dX2_enter_28 : decode cX2_enter 28 = .ok (.aaload, 1) := by decide +kernel
theorem dX2_enter_29 : decode cX2_enter 29 = .ok (.aload_n 0, 1) := by decide +kernel
theorem dX2_enter_30 : decode cX2_enter 30 = .ok (.getfield 31, 3) := by decide +kernel
theorem dX2_enter_33 : decode cX2_enter 33 = .ok (.iload_n 1, 1) := by decide +kernel
theorem dX2_enter_34 : decode cX2_enter 34 = .ok (.invokevirtual 135, 3) := by decide +kernel
theorem dX2_enter_37 : decode cX2_enter 37 = .ok (.aload_n 0, 1) := by decide +kernel
theorem dX2_enter_38 : decode cX2_enter 38 = .ok (.dup, 1) := by decide +kernel
theorem dX2_enter_39 : decode cX2_enter 39 = .ok (.getfield 31, 3) := by decide +kernel
theorem dX2_enter_42 : decode cX2_enter 42 = .ok (.iconst 1, 1) := by decide +kernel
theorem dX2_enter_43 : decode cX2_enter 43 = .ok (.iadd, 1) := by decide +kernel
theorem dX2_enter_44 : decode cX2_enter 44 = .ok (.putfield 31, 3) := by decide +kernel
theorem dX2_enter_47 : decode cX2_enter 47 = .ok (.aload_n 0, 1) := by decide +kernel
theorem dX2_enter_48 : decode cX2_enter 48 = .ok (.getfield 20, 3) := by decide +kernel
theorem dX2_enter_51 : decode cX2_enter 51 = .ok (.iload_n 2, 1) := by decide +kernel
theorem dX2_enter_52 : decode cX2_enter 52 = .ok (.aaload, 1) := by decide +kernel
theorem dX2_enter_53 : decode cX2_enter 53 = .ok (.getfield 139, 3) := by decide +kernel
theorem dX2_enter_56 : decode cX2_enter 56 = .ok (.ireturn, 1) := by decide +kernel
theorem dX2_enter_57 : decode cX2_enter 57 = .ok (.iinc 2 1, 3) := by decide +kernel
theorem dX2_enter_60 : decode cX2_enter 60 = .ok (.goto (-58), 3) := by decide +kernel
theorem dX2_enter_63 : decode cX2_enter 63 = .ok (.new 101, 3) := by decide +kernel
theorem dX2_enter_66 : decode cX2_enter 66 = .ok (.dup, 1) := by decide +kernel
theorem dX2_enter_67 : decode cX2_enter 67 = .ok (.ldc 142, 2) := by decide +kernel
theorem dX2_enter_69 : decode cX2_enter 69 = .ok (.invokespecial 105, 3) := by decide +kernel
theorem dX2_enter_72 : decode cX2_enter 72 = .ok (.athrow, 1) := by decide +kernel
theorem dX2_liveTransaction_0 : decode cX2_liveTransaction 0 = .ok (.iconst 0, 1) := by decide +kernel
theorem dX2_liveTransaction_1 : decode cX2_liveTransaction 1 = .ok (.istore_n 2, 1) := by decide +kernel
theorem dX2_liveTransaction_2 : decode cX2_liveTransaction 2 = .ok (.iload_n 2, 1) := by decide +kernel
theorem dX2_liveTransaction_3 : decode cX2_liveTransaction 3 = .ok (.aload_n 0, 1) := by decide +kernel
theorem dX2_liveTransaction_4 : decode cX2_liveTransaction 4 = .ok (.getfield 20, 3) := by decide +kernel
theorem dX2_liveTransaction_7 : decode cX2_liveTransaction 7 = .ok (.arraylength, 1) := by decide +kernel
theorem dX2_liveTransaction_8 : decode cX2_liveTransaction 8 = .ok (.if_icmp .ge 41, 3) := by decide +kernel
theorem dX2_liveTransaction_11 : decode cX2_liveTransaction 11 = .ok (.aload_n 0, 1) := by decide +kernel
theorem dX2_liveTransaction_12 : decode cX2_liveTransaction 12 = .ok (.getfield 20, 3) := by decide +kernel
theorem dX2_liveTransaction_15 : decode cX2_liveTransaction 15 = .ok (.iload_n 2, 1) := by decide +kernel
theorem dX2_liveTransaction_16 : decode cX2_liveTransaction 16 = .ok (.aaload, 1) := by decide +kernel
theorem dX2_liveTransaction_17 : decode cX2_liveTransaction 17 = .ok (.getfield 89, 3) := by decide +kernel
theorem dX2_liveTransaction_20 : decode cX2_liveTransaction 20 = .ok (.ifCond .eq 23, 3) := by decide +kernel
theorem dX2_liveTransaction_23 : decode cX2_liveTransaction 23 = .ok (.aload_n 0, 1) := by decide +kernel
theorem dX2_liveTransaction_24 : decode cX2_liveTransaction 24 = .ok (.getfield 20, 3) := by decide +kernel
theorem dX2_liveTransaction_27 : decode cX2_liveTransaction 27 = .ok (.iload_n 2, 1) := by decide +kernel
theorem dX2_liveTransaction_28 : decode cX2_liveTransaction 28 = .ok (.aaload, 1) := by decide +kernel
theorem dX2_liveTransaction_29 : decode cX2_liveTransaction 29 = .ok (.getfield 139, 3) := by decide +kernel
theorem dX2_liveTransaction_32 : decode cX2_liveTransaction 32 = .ok (.iload_n 1, 1) := by decide +kernel
theorem dX2_liveTransaction_33 : decode cX2_liveTransaction 33 = .ok (.if_icmp .ne 10, 3) := by decide +kernel
theorem dX2_liveTransaction_36 : decode cX2_liveTransaction 36 = .ok (.aload_n 0, 1) := by decide +kernel
theorem dX2_liveTransaction_37 : decode cX2_liveTransaction 37 = .ok (.getfield 20, 3) := by decide +kernel
theorem dX2_liveTransaction_40 : decode cX2_liveTransaction 40 = .ok (.iload_n 2, 1) := by decide +kernel
theorem dX2_liveTransaction_41 : decode cX2_liveTransaction 41 = .ok (.aaload, 1) := by decide +kernel
theorem dX2_liveTransaction_42 : decode cX2_liveTransaction 42 = .ok (.areturn, 1) := by decide +kernel
theorem dX2_liveTransaction_43 : decode cX2_liveTransaction 43 = .ok (.iinc 2 1, 3) := by decide +kernel
theorem dX2_liveTransaction_46 : decode cX2_liveTransaction 46 = .ok (.goto (-44), 3) := by decide +kernel
theorem dX2_liveTransaction_49 : decode cX2_liveTransaction 49 = .ok (.new 144, 3) := by decide +kernel
theorem dX2_liveTransaction_52 : decode cX2_liveTransaction 52 = .ok (.dup, 1) := by decide +kernel
theorem dX2_liveTransaction_53 : decode cX2_liveTransaction 53 = .ok (.ldc 146, 2) := by decide +kernel
theorem dX2_liveTransaction_55 : decode cX2_liveTransaction 55 = .ok (.invokespecial 148, 3) := by decide +kernel
theorem dX2_liveTransaction_58 : decode cX2_liveTransaction 58 = .ok (.athrow, 1) := by decide +kernel
set_option maxRecDepth 20000 in
theorem ggX2_isNeeded_X0_latest : GoodIn wsX2_isNeeded wsX0_latest := goodIn_r _ [11, 12, 13, 14, 20, 21, 22, 23, 24] (by decide +kernel) (by decide +kernel)
set_option maxRecDepth 20000 in
theorem gX2_isNeeded_X0_latest : GoodIn wsX2_isNeeded (wsV RX2 157 RX0 yX0_latest wsX0_latest) := goodIn_app (goodIn_of _ (by decide +kernel)) ggX2_isNeeded_X0_latest
theorem dX2_isNeeded_0 : decode cX2_isNeeded 0 = .ok (.aload_n 0, 1) := by decide +kernel
theorem dX2_isNeeded_1 : decode cX2_isNeeded 1 = .ok (.getfield 14, 3) := by decide +kernel
theorem dX2_isNeeded_4 : decode cX2_isNeeded 4 = .ok (.getfield 117, 3) := by decide +kernel
theorem dX2_isNeeded_7 : decode cX2_isNeeded 7 = .ok (.iload_n 1, 1) := by decide +kernel
theorem dX2_isNeeded_8 : decode cX2_isNeeded 8 = .ok (.iaload, 1) := by decide +kernel
theorem dX2_isNeeded_9 : decode cX2_isNeeded 9 = .ok (.istore_n 2, 1) := by decide +kernel
theorem dX2_isNeeded_10 : decode cX2_isNeeded 10 = .ok (.aload_n 0, 1) := by decide +kernel
theorem dX2_isNeeded_11 : decode cX2_isNeeded 11 = .ok (.getfield 14, 3) := by decide +kernel
theorem dX2_isNeeded_14 : decode cX2_isNeeded 14 = .ok (.iload_n 2, 1) := by decide +kernel
theorem dX2_isNeeded_15 : decode cX2_isNeeded 15 = .ok (.aload_n 0, 1) := by decide +kernel
theorem dX2_isNeeded_16 : decode cX2_isNeeded 16 = .ok (.getfield 24, 3) := by decide +kernel
theorem dX2_isNeeded_19 : decode cX2_isNeeded 19 = .ok (.invokevirtual 157, 3) := by decide +kernel
theorem dX2_isNeeded_22 : decode cX2_isNeeded 22 = .ok (.iload_n 1, 1) := by decide +kernel
theorem dX2_isNeeded_23 : decode cX2_isNeeded 23 = .ok (.if_icmp .ne 5, 3) := by decide +kernel
theorem dX2_isNeeded_26 : decode cX2_isNeeded 26 = .ok (.iconst 1, 1) := by decide +kernel
theorem dX2_isNeeded_27 : decode cX2_isNeeded 27 = .ok (.ireturn, 1) := by decide +kernel
theorem dX2_isNeeded_28 : decode cX2_isNeeded 28 = .ok (.iconst 0, 1) := by decide +kernel
theorem dX2_isNeeded_29 : decode cX2_isNeeded 29 = .ok (.istore_n 3, 1) := by decide +kernel
theorem dX2_isNeeded_30 : decode cX2_isNeeded 30 = .ok (.iload_n 3, 1) := by decide +kernel
theorem dX2_isNeeded_31 : decode cX2_isNeeded 31 = .ok (.aload_n 0, 1) := by decide +kernel
theorem dX2_isNeeded_32 : decode cX2_isNeeded 32 = .ok (.getfield 20, 3) := by decide +kernel
theorem dX2_isNeeded_35 : decode cX2_isNeeded 35 = .ok (.arraylength, 1) := by decide +kernel
theorem dX2_isNeeded_36 : decode cX2_isNeeded 36 = .ok (.if_icmp .ge 44, 3) := by decide +kernel
theorem dX2_isNeeded_39 : decode cX2_isNeeded 39 = .ok (.aload_n 0, 1) := by decide +kernel
theorem dX2_isNeeded_40 : decode cX2_isNeeded 40 = .ok (.getfield 20, 3) := by decide +kernel
theorem dX2_isNeeded_43 : decode cX2_isNeeded 43 = .ok (.iload_n 3, 1) := by decide +kernel
theorem dX2_isNeeded_44 : decode cX2_isNeeded 44 = .ok (.aaload, 1) := by decide +kernel
theorem dX2_isNeeded_45 : decode cX2_isNeeded 45 = .ok (.getfield 89, 3) := by decide +kernel
theorem dX2_isNeeded_48 : decode cX2_isNeeded 48 = .ok (.ifCond .eq 26, 3) := by decide +kernel
theorem dX2_isNeeded_51 : decode cX2_isNeeded 51 = .ok (.aload_n 0, 1) := by decide +kernel
theorem dX2_isNeeded_52 : decode cX2_isNeeded 52 = .ok (.getfield 14, 3) := by decide +kernel
theorem dX2_isNeeded_55 : decode cX2_isNeeded 55 = .ok (.iload_n 2, 1) := by decide +kernel
theorem dX2_isNeeded_56 : decode cX2_isNeeded 56 = .ok (.aload_n 0, 1) := by decide +kernel
theorem dX2_isNeeded_57 : decode cX2_isNeeded 57 = .ok (.getfield 20, 3) := by decide +kernel
theorem dX2_isNeeded_60 : decode cX2_isNeeded 60 = .ok (.iload_n 3, 1) := by decide +kernel
theorem dX2_isNeeded_61 : decode cX2_isNeeded 61 = .ok (.aaload, 1) := by decide +kernel
theorem dX2_isNeeded_62 : decode cX2_isNeeded 62 = .ok (.getfield 57, 3) := by decide +kernel
theorem dX2_isNeeded_65 : decode cX2_isNeeded 65 = .ok (.invokevirtual 157, 3) := by decide +kernel
theorem dX2_isNeeded_68 : decode cX2_isNeeded 68 = .ok (.iload_n 1, 1) := by decide +kernel
theorem dX2_isNeeded_69 : decode cX2_isNeeded 69 = .ok (.if_icmp .ne 5, 3) := by decide +kernel
theorem dX2_isNeeded_72 : decode cX2_isNeeded 72 = .ok (.iconst 1, 1) := by decide +kernel
theorem dX2_isNeeded_73 : decode cX2_isNeeded 73 = .ok (.ireturn, 1) := by decide +kernel
theorem dX2_isNeeded_74 : decode cX2_isNeeded 74 = .ok (.iinc 3 1, 3) := by decide +kernel
theorem dX2_isNeeded_77 : decode cX2_isNeeded 77 = .ok (.goto (-47), 3) := by decide +kernel
theorem dX2_isNeeded_80 : decode cX2_isNeeded 80 = .ok (.iconst 0, 1) := by decide +kernel
theorem dX2_isNeeded_81 : decode cX2_isNeeded 81 = .ok (.ireturn, 1) := by decide +kernel
set_option maxRecDepth 20000 in
theorem ggL_begin_X2_begin : GoodIn wsL_begin wsX2_begin := goodIn_ca (goodIn_r _ [6, 7, 8, 9, 10, 5, 11, 12, 13, 14, 15, 16, 17, 18, 19, 20, 21, 22, 23, 24, 25, 26, 27, 28, 29, 30, 31, 32, 33, 34, 35, 36, 37, 38, 39, 40, 41] (by decide +kernel) (by decide +kernel)) (goodIn_sub (fun _ h => List.mem_cons_of_mem _ (List.mem_append_right _ h)) (by decide +kernel))
set_option maxRecDepth 20000 in
theorem gL_begin_X2_begin : GoodIn wsL_begin (wsV RL 7 RX2 yX2_begin wsX2_begin) := goodIn_app (goodIn_of _ (by decide +kernel)) ggL_begin_X2_begin
theorem dL_begin_0 : decode cL_begin 0 = .ok (.aload_n 1, 1) := by decide +kernel
theorem dL_begin_1 : decode cL_begin 1 = .ok (.iconst 0, 1) := by decide +kernel
theorem dL_begin_2 : decode cL_begin 2 = .ok (.aload_n 0, 1) := by decide +kernel
theorem dL_begin_3 : decode cL_begin 3 = .ok (.invokevirtual 7, 3) := by decide +kernel
theorem dL_begin_6 : decode cL_begin 6 = .ok (.i2l, 1) := by decide +kernel
theorem dL_begin_7 : decode cL_begin 7 = .ok (.lastore, 1) := by decide +kernel
theorem dL_begin_8 : decode cL_begin 8 = .ok (.goto 6, 3) := by decide +kernel
theorem dL_begin_11 : decode cL_begin 11 = .ok (.astore_n 2, 1) := by decide +kernel
theorem dL_begin_12 : decode cL_begin 12 = .ok (.iconst 1, 1) := by decide +kernel
theorem dL_begin_13 : decode cL_begin 13 = .ok (.ireturn, 1) := by decide +kernel
theorem dL_begin_14 : decode cL_begin 14 = .ok (.iconst 0, 1) := by decide +kernel
theorem dL_begin_15 : decode cL_begin 15 = .ok (.ireturn, 1) := by decide +kernel
set_option maxRecDepth 20000 in
theorem ggL_beginAt_X2_beginAt : GoodIn wsL_beginAt wsX2_beginAt := goodIn_ca (goodIn_ca (goodIn_r _ [7, 8, 9, 10, 11, 12, 13, 14, 6, 15, 16, 17, 18, 19, 20, 21, 22, 23, 24, 25, 26, 27, 28, 29, 30, 31, 32, 33, 34, 35, 36, 37, 38, 39, 40, 41, 42, 43, 44, 45] (by decide +kernel) (by decide +kernel)) (goodIn_sub (fun _ h => List.mem_cons_of_mem _ (List.mem_append_left _ (List.mem_append_right _ h))) (by decide +kernel))) (goodIn_sub (fun _ h => List.mem_cons_of_mem _ (List.mem_append_right _ h)) (by decide +kernel))
set_option maxRecDepth 20000 in
theorem gL_beginAt_X2_beginAt : GoodIn wsL_beginAt (wsV RL 15 RX2 yX2_beginAt wsX2_beginAt) := goodIn_app (goodIn_of _ (by decide +kernel)) ggL_beginAt_X2_beginAt
theorem dL_beginAt_0 : decode cL_beginAt 0 = .ok (.aload_n 2, 1) := by decide +kernel
theorem dL_beginAt_1 : decode cL_beginAt 1 = .ok (.iconst 0, 1) := by decide +kernel
theorem dL_beginAt_2 : decode cL_beginAt 2 = .ok (.aload_n 0, 1) := by decide +kernel
theorem dL_beginAt_3 : decode cL_beginAt 3 = .ok (.iload_n 1, 1) := by decide +kernel
theorem dL_beginAt_4 : decode cL_beginAt 4 = .ok (.invokevirtual 15, 3) := by decide +kernel
theorem dL_beginAt_7 : decode cL_beginAt 7 = .ok (.i2l, 1) := by decide +kernel
theorem dL_beginAt_8 : decode cL_beginAt 8 = .ok (.lastore, 1) := by decide +kernel
theorem dL_beginAt_9 : decode cL_beginAt 9 = .ok (.goto 9, 3) := by decide +kernel
theorem dL_beginAt_12 : decode cL_beginAt 12 = .ok (.astore_n 3, 1) := by decide +kernel
theorem dL_beginAt_13 : decode cL_beginAt 13 = .ok (.iconst 1, 1) := by decide +kernel
theorem dL_beginAt_14 : decode cL_beginAt 14 = .ok (.ireturn, 1) := by decide +kernel
theorem dL_beginAt_15 : decode cL_beginAt 15 = .ok (.astore_n 3, 1) := by decide +kernel
theorem dL_beginAt_16 : decode cL_beginAt 16 = .ok (.iconst 2, 1) := by decide +kernel
theorem dL_beginAt_17 : decode cL_beginAt 17 = .ok (.ireturn, 1) := by decide +kernel
theorem dL_beginAt_18 : decode cL_beginAt 18 = .ok (.iconst 0, 1) := by decide +kernel
theorem dL_beginAt_19 : decode cL_beginAt 19 = .ok (.ireturn, 1) := by decide +kernel
set_option maxRecDepth 20000 in
theorem ggL_read_X2_read : GoodIn wsL_read wsX2_read := goodIn_ca (goodIn_ca (goodIn_r _ [8, 9, 10, 11, 12, 13, 14, 15, 7, 16, 17, 18, 19, 20, 21, 22, 23, 24, 25, 26, 27, 28, 29, 30, 31, 32, 33, 34, 35] (by decide +kernel) (by decide +kernel)) (goodIn_sub (fun _ h => List.mem_cons_of_mem _ (List.mem_append_left _ (List.mem_append_right _ h))) (by decide +kernel))) (goodIn_sub (fun _ h => List.mem_cons_of_mem _ (List.mem_append_right _ h)) (by decide +kernel))
set_option maxRecDepth 20000 in
theorem gL_read_X2_read : GoodIn wsL_read (wsV RL 21 RX2 yX2_read wsX2_read) := goodIn_app (goodIn_of _ (by decide +kernel)) ggL_read_X2_read
theorem dL_read_0 : decode cL_read 0 = .ok (.aload_n 3, 1) := by decide +kernel
theorem dL_read_1 : decode cL_read 1 = .ok (.iconst 0, 1) := by decide +kernel
theorem dL_read_2 : decode cL_read 2 = .ok (.aload_n 0, 1) := by decide +kernel
theorem dL_read_3 : decode cL_read 3 = .ok (.iload_n 1, 1) := by decide +kernel
theorem dL_read_4 : decode cL_read 4 = .ok (.iload_n 2, 1) := by decide +kernel
theorem dL_read_5 : decode cL_read 5 = .ok (.invokevirtual 21, 3) := by decide +kernel
theorem dL_read_8 : decode cL_read 8 = .ok (.lastore, 1) := by decide +kernel
theorem dL_read_9 : decode cL_read 9 = .ok (.goto 15, 3) := by decide +kernel
theorem dL_read_12 : decode cL_read 12 = .ok (.astore 4, 2) := by decide +kernel
theorem dL_read_14 : decode cL_read 14 = .ok (.iconst 1, 1) := by decide +kernel
theorem dL_read_15 : decode cL_read 15 = .ok (.ireturn, 1) := by decide +kernel
theorem dL_read_16 : decode cL_read 16 = .ok (.astore 4, 2) := by decide +kernel
theorem dL_read_18 : decode cL_read 18 = .ok (.iconst 2, 1) := by decide +kernel
theorem dL_read_19 : decode cL_read 19 = .ok (.ireturn, 1) := by decide +kernel
theorem dL_read_20 : decode cL_read 20 = .ok (.astore 4, 2) := by decide +kernel
theorem dL_read_22 : decode cL_read 22 = .ok (.iconst 3, 1) := by decide +kernel
theorem dL_read_23 : decode cL_read 23 = .ok (.ireturn, 1) := by decide +kernel
theorem dL_read_24 : decode cL_read 24 = .ok (.iconst 0, 1) := by decide +kernel
theorem dL_read_25 : decode cL_read 25 = .ok (.ireturn, 1) := by decide +kernel
set_option maxRecDepth 20000 in
theorem ggL_law_X2_init : GoodIn wsL_law wsX2_init := goodIn_r _ [6, 7, 8, 9, 10, 11, 12, 13, 14, 15, 16, 17, 18, 19, 20, 21, 22, 23, 24, 25, 26, 27, 28, 3, 29, 30, 31, 32, 33, 34, 35, 36, 37, 38, 39, 40, 123, 124, 125, 126, 127, 118, 119, 120, 121, 122, 128, 129, 130, 131] (by decide +kernel) (by decide +kernel)
set_option maxRecDepth 20000 in
theorem gL_law_X2_init : GoodIn wsL_law (wsX2_init) := ggL_law_X2_init
set_option maxRecDepth 20000 in
theorem ggL_law_L_begin : GoodIn wsL_law wsL_begin := goodIn_ca (goodIn_r _ [44, 45, 46, 47, 48, 2, 49, 16, 50, 51, 52, 53, 54, 55, 15, 56, 18, 57, 58, 59, 60, 20, 61, 37, 38, 39, 36, 62, 118, 119, 120, 121, 122, 128, 129, 130, 131, 123, 124, 125, 126, 127] (by decide +kernel) (by decide +kernel)) (goodIn_sub (fun _ h => List.mem_append_left _ (List.mem_append_left _ (List.mem_append_left _ (List.mem_append_right _ h)))) (by decide +kernel))
set_option maxRecDepth 20000 in
theorem gL_law_L_begin : GoodIn wsL_law (va_wsS RL 70 yL_begin wsL_begin) := goodIn_app (goodIn_of _ (by decide +kernel)) ggL_law_L_begin
set_option maxRecDepth 20000 in
theorem ggL_law_L_beginAt : GoodIn wsL_law wsL_beginAt := goodIn_ca (goodIn_ca (goodIn_r _ [65, 66, 45, 67, 68, 69, 2, 70, 71, 72, 17, 16, 50, 51, 52, 53, 54, 55, 15, 56, 18, 57, 58, 59, 60, 20, 61, 37, 38, 39, 36, 62, 118, 119, 120, 121, 122, 128, 129, 130, 131, 123, 124, 125, 126, 127] (by decide +kernel) (by decide +kernel)) (goodIn_sub (fun _ h => List.mem_append_left _ (List.mem_append_left _ (List.mem_append_right _ h))) (by decide +kernel))) (goodIn_sub (fun _ h => List.mem_append_left _ (List.mem_append_left _ (List.mem_append_left _ (List.mem_append_right _ h)))) (by decide +kernel))
set_option maxRecDepth 20000 in
theorem gL_law_L_beginAt : GoodIn wsL_law (va_wsS RL 79 yL_beginAt wsL_beginAt) := goodIn_app (goodIn_of _ (by decide +kernel)) ggL_law_L_beginAt
set_option maxRecDepth 20000 in
theorem ggL_law_L_read : GoodIn wsL_law wsL_read := goodIn_ca (goodIn_ca (goodIn_r _ [75, 76, 66, 77, 78, 79, 80, 2, 81, 82, 83, 84, 85, 86, 87, 88, 89, 90, 91, 15, 56, 57, 128, 129, 130, 131, 123, 124, 125, 126, 127, 118, 119, 120, 121, 122] (by decide +kernel) (by decide +kernel)) (goodIn_sub (fun _ h => List.mem_append_left _ (List.mem_append_right _ h)) (by decide +kernel))) (goodIn_sub (fun _ h => List.mem_append_right _ h) (by decide +kernel))
set_option maxRecDepth 20000 in
theorem gL_law_L_read : GoodIn wsL_law (va_wsS RL 83 yL_read wsL_read) := goodIn_app (goodIn_of _ (by decide +kernel)) ggL_law_L_read
set_option maxRecDepth 20000 in
theorem ggL_law_X2_vacuum : GoodIn wsL_law wsX2_vacuum := goodIn_r _ [95, 13, 96, 16, 17, 97, 98, 99, 2, 100, 101, 15, 56, 84, 102, 103, 104, 12, 105, 25, 27, 28, 106, 107, 108, 109, 29, 31, 118, 119, 120, 121, 122, 123, 124, 125, 126, 127, 128, 129, 130, 131] (by decide +kernel) (by decide +kernel)
set_option maxRecDepth 20000 in
theorem gL_law_X2_vacuum : GoodIn wsL_law (wsV RL 113 RX2 yX2_vacuum wsX2_vacuum) := goodIn_app (goodIn_of _ (by decide +kernel)) ggL_law_X2_vacuum
set_option maxRecDepth 20000 in
theorem ggL_law_X2_time : GoodIn wsL_law wsX2_time := goodIn_r _ [113, 16, 118, 119, 120, 121, 122] (by decide +kernel) (by decide +kernel)
set_option maxRecDepth 20000 in
theorem gL_law_X2_time : GoodIn wsL_law (wsV RL 117 RX2 yX2_time wsX2_time) := goodIn_app (goodIn_of _ (by decide +kernel)) ggL_law_X2_time
set_option maxRecDepth 20000 in
theorem ggL_law_X2_live : GoodIn wsL_law wsX2_live := goodIn_r _ [117, 15, 56, 118, 119, 120, 121, 122, 128, 129, 130, 131] (by decide +kernel) (by decide +kernel)
set_option maxRecDepth 20000 in
theorem gL_law_X2_live : GoodIn wsL_law (wsV RL 121 RX2 yX2_live wsX2_live) := goodIn_app (goodIn_of _ (by decide +kernel)) ggL_law_X2_live
theorem dL_law_0 : decode cL_law 0 = .ok (.new 8, 3) := by decide +kernel
theorem dL_law_3 : decode cL_law 3 = .ok (.dup, 1) := by decide +kernel
theorem dL_law_4 : decode cL_law 4 = .ok (.invokespecial 66, 3) := by decide +kernel
theorem dL_law_7 : decode cL_law 7 = .ok (.astore_n 1, 1) := by decide +kernel
theorem dL_law_8 : decode cL_law 8 = .ok (.new 67, 3) := by decide +kernel
theorem dL_law_11 : decode cL_law 11 = .ok (.dup, 1) := by decide +kernel
theorem dL_law_12 : decode cL_law 12 = .ok (.invokespecial 69, 3) := by decide +kernel
theorem dL_law_15 : decode cL_law 15 = .ok (.astore_n 2, 1) := by decide +kernel
theorem dL_law_16 : decode cL_law 16 = .ok (.iconst 1, 1) := by decide +kernel
theorem dL_law_17 : decode cL_law 17 = .ok (.newarray .long, 2) := by decide +kernel
theorem dL_law_19 : decode cL_law 19 = .ok (.astore_n 3, 1) := by decide +kernel
theorem dL_law_20 : decode cL_law 20 = .ok (.iconst 0, 1) := by decide +kernel
theorem dL_law_21 : decode cL_law 21 = .ok (.istore 4, 2) := by decide +kernel
theorem dL_law_23 : decode cL_law 23 = .ok (.iload 4, 2) := by decide +kernel
theorem dL_law_25 : decode cL_law 25 = .ok (.aload_n 0, 1) := by decide +kernel
theorem dL_law_26 : decode cL_law 26 = .ok (.arraylength, 1) := by decide +kernel
theorem dL_law_27 : decode cL_law 27 = .ok (.iconst 5, 1) := by decide +kernel
theorem dL_law_28 : decode cL_law 28 = .ok (.isub, 1) := by decide +kernel
theorem dL_law_29 : decode cL_law 29 = .ok (.if_icmp .gt 954, 3) := by decide +kernel
theorem dL_law_32 : decode cL_law 32 = .ok (.aload_n 0, 1) := by decide +kernel
theorem dL_law_33 : decode cL_law 33 = .ok (.iload 4, 2) := by decide +kernel
theorem dL_law_35 : decode cL_law 35 = .ok (.iaload, 1) := by decide +kernel
theorem dL_law_36 : decode cL_law 36 = .ok (.bipush 31, 2) := by decide +kernel
theorem dL_law_38 : decode cL_law 38 = .ok (.iand, 1) := by decide +kernel
theorem dL_law_39 : decode cL_law 39 = .ok (.tableswitch 938 0 16 #[81, 125, 181, 248, 340, 388, 444, 492, 560, 616, 652, 665, 678, 691, 747, 803, 871], 81) := by decide +kernel
theorem dL_law_120 : decode cL_law 120 = .ok (.aload_n 1, 1) := by decide +kernel
theorem dL_law_121 : decode cL_law 121 = .ok (.aload_n 3, 1) := by decide +kernel
theorem dL_law_122 : decode cL_law 122 = .ok (.invokestatic 70, 3) := by decide +kernel
theorem dL_law_125 : decode cL_law 125 = .ok (.istore 5, 2) := by decide +kernel
theorem dL_law_127 : decode cL_law 127 = .ok (.aload_n 2, 1) := by decide +kernel
theorem dL_law_128 : decode cL_law 128 = .ok (.invokevirtual 75, 3) := by decide +kernel
theorem dL_law_131 : decode cL_law 131 = .ok (.istore 6, 2) := by decide +kernel
theorem dL_law_133 : decode cL_law 133 = .ok (.aload_n 2, 1) := by decide +kernel
theorem dL_law_134 : decode cL_law 134 = .ok (.invokevirtual 76, 3) := by decide +kernel
theorem dL_law_137 : decode cL_law 137 = .ok (.iload 5, 2) := by decide +kernel
theorem dL_law_139 : decode cL_law 139 = .ok (.if_icmp .eq 5, 3) := by decide +kernel
theorem dL_law_142 : decode cL_law 142 = .ok (.iconst 0, 1) := by decide +kernel
theorem dL_law_143 : decode cL_law 143 = .ok (.ireturn, 1) := by decide +kernel
theorem dL_law_144 : decode cL_law 144 = .ok (.iload 5, 2) := by decide +kernel
theorem dL_law_146 : decode cL_law 146 = .ok (.ifCond .ne 15, 3) := by decide +kernel
theorem dL_law_149 : decode cL_law 149 = .ok (.aload_n 3, 1) := by decide +kernel
theorem dL_law_150 : decode cL_law 150 = .ok (.iconst 0, 1) := by decide +kernel
theorem dL_law_151 : decode cL_law 151 = .ok (.laload, 1) := by decide +kernel
theorem dL_law_152 : decode cL_law 152 = .ok (.iload 6, 2) := by decide +kernel
theorem dL_law_154 : decode cL_law 154 = .ok (.i2l, 1) := by decide +kernel
theorem dL_law_155 : decode cL_law 155 = .ok (.lcmp, 1) := by decide +kernel
theorem dL_law_156 : decode cL_law 156 = .ok (.ifCond .eq 5, 3) := by decide +kernel
theorem dL_law_159 : decode cL_law 159 = .ok (.iconst 0, 1) := by decide +kernel
theorem dL_law_160 : decode cL_law 160 = .ok (.ireturn, 1) := by decide +kernel
theorem dL_law_161 : decode cL_law 161 = .ok (.goto 816, 3) := by decide +kernel
theorem dL_law_164 : decode cL_law 164 = .ok (.aload_n 1, 1) := by decide +kernel
theorem dL_law_165 : decode cL_law 165 = .ok (.aload_n 0, 1) := by decide +kernel
theorem dL_law_166 : decode cL_law 166 = .ok (.iload 4, 2) := by decide +kernel
theorem dL_law_168 : decode cL_law 168 = .ok (.iconst 1, 1) := by decide +kernel
theorem dL_law_169 : decode cL_law 169 = .ok (.iadd, 1) := by decide +kernel
theorem dL_law_170 : decode cL_law 170 = .ok (.iaload, 1) := by decide +kernel
theorem dL_law_171 : decode cL_law 171 = .ok (.aload_n 3, 1) := by decide +kernel
theorem dL_law_172 : decode cL_law 172 = .ok (.invokestatic 79, 3) := by decide +kernel
theorem dL_law_175 : decode cL_law 175 = .ok (.istore 5, 2) := by decide +kernel
theorem dL_law_177 : decode cL_law 177 = .ok (.aload_n 2, 1) := by decide +kernel
theorem dL_law_178 : decode cL_law 178 = .ok (.aload_n 0, 1) := by decide +kernel
theorem dL_law_179 : decode cL_law 179 = .ok (.iload 4, 2) := by decide +kernel
theorem dL_law_181 : decode cL_law 181 = .ok (.iconst 1, 1) := by decide +kernel
theorem dL_law_182 : decode cL_law 182 = .ok (.iadd, 1) := by decide +kernel
theorem dL_law_183 : decode cL_law 183 = .ok (.iaload, 1) := by decide +kernel
theorem dL_law_184 : decode cL_law 184 = .ok (.invokevirtual 82, 3) := by decide +kernel
theorem dL_law_187 : decode cL_law 187 = .ok (.istore 6, 2) := by decide +kernel
theorem dL_law_189 : decode cL_law 189 = .ok (.aload_n 2, 1) := by decide +kernel
theorem dL_law_190 : decode cL_law 190 = .ok (.invokevirtual 76, 3) := by decide +kernel
theorem dL_law_193 : decode cL_law 193 = .ok (.iload 5, 2) := by decide +kernel
theorem dL_law_195 : decode cL_law 195 = .ok (.if_icmp .eq 5, 3) := by decide +kernel
theorem dL_law_198 : decode cL_law 198 = .ok (.iconst 0, 1) := by decide +kernel
theorem dL_law_199 : decode cL_law 199 = .ok (.ireturn, 1) := by decide +kernel
theorem dL_law_200 : decode cL_law 200 = .ok (.iload 5, 2) := by decide +kernel
theorem dL_law_202 : decode cL_law 202 = .ok (.ifCond .ne 15, 3) := by decide +kernel
theorem dL_law_205 : decode cL_law 205 = .ok (.aload_n 3, 1) := by decide +kernel
theorem dL_law_206 : decode cL_law 206 = .ok (.iconst 0, 1) := by decide +kernel
theorem dL_law_207 : decode cL_law 207 = .ok (.laload, 1) := by decide +kernel
theorem dL_law_208 : decode cL_law 208 = .ok (.iload 6, 2) := by decide +kernel
theorem dL_law_210 : decode cL_law 210 = .ok (.i2l, 1) := by decide +kernel
theorem dL_law_211 : decode cL_law 211 = .ok (.lcmp, 1) := by decide +kernel
theorem dL_law_212 : decode cL_law 212 = .ok (.ifCond .eq 5, 3) := by decide +kernel
theorem dL_law_215 : decode cL_law 215 = .ok (.iconst 0, 1) := by decide +kernel
theorem dL_law_216 : decode cL_law 216 = .ok (.ireturn, 1) := by decide +kernel
theorem dL_law_217 : decode cL_law 217 = .ok (.goto 760, 3) := by decide +kernel
theorem dL_law_220 : decode cL_law 220 = .ok (.aload_n 1, 1) := by decide +kernel
theorem dL_law_221 : decode cL_law 221 = .ok (.aload_n 0, 1) := by decide +kernel
theorem dL_law_222 : decode cL_law 222 = .ok (.iload 4, 2) := by decide +kernel
theorem dL_law_224 : decode cL_law 224 = .ok (.iconst 1, 1) := by decide +kernel
theorem dL_law_225 : decode cL_law 225 = .ok (.iadd, 1) := by decide +kernel
theorem dL_law_226 : decode cL_law 226 = .ok (.iaload, 1) := by decide +kernel
theorem dL_law_227 : decode cL_law 227 = .ok (.aload_n 0, 1) := by decide +kernel
theorem dL_law_228 : decode cL_law 228 = .ok (.iload 4, 2) := by decide +kernel
theorem dL_law_230 : decode cL_law 230 = .ok (.iconst 2, 1) := by decide +kernel
theorem dL_law_231 : decode cL_law 231 = .ok (.iadd, 1) := by decide +kernel
theorem dL_law_232 : decode cL_law 232 = .ok (.iaload, 1) := by decide +kernel
theorem dL_law_233 : decode cL_law 233 = .ok (.aload_n 3, 1) := by decide +kernel
theorem dL_law_234 : decode cL_law 234 = .ok (.invokestatic 83, 3) := by decide +kernel
theorem dL_law_237 : decode cL_law 237 = .ok (.istore 5, 2) := by decide +kernel
theorem dL_law_239 : decode cL_law 239 = .ok (.aload_n 2, 1) := by decide +kernel
theorem dL_law_240 : decode cL_law 240 = .ok (.aload_n 0, 1) := by decide +kernel
theorem dL_law_241 : decode cL_law 241 = .ok (.iload 4, 2) := by decide +kernel
theorem dL_law_243 : decode cL_law 243 = .ok (.iconst 1, 1) := by decide +kernel
theorem dL_law_244 : decode cL_law 244 = .ok (.iadd, 1) := by decide +kernel
theorem dL_law_245 : decode cL_law 245 = .ok (.iaload, 1) := by decide +kernel
theorem dL_law_246 : decode cL_law 246 = .ok (.aload_n 0, 1) := by decide +kernel
theorem dL_law_247 : decode cL_law 247 = .ok (.iload 4, 2) := by decide +kernel
theorem dL_law_249 : decode cL_law 249 = .ok (.iconst 2, 1) := by decide +kernel
theorem dL_law_250 : decode cL_law 250 = .ok (.iadd, 1) := by decide +kernel
theorem dL_law_251 : decode cL_law 251 = .ok (.iaload, 1) := by decide +kernel
theorem dL_law_252 : decode cL_law 252 = .ok (.invokevirtual 86, 3) := by decide +kernel
theorem dL_law_255 : decode cL_law 255 = .ok (.lstore 6, 2) := by decide +kernel
theorem dL_law_257 : decode cL_law 257 = .ok (.aload_n 2, 1) := by decide +kernel
theorem dL_law_258 : decode cL_law 258 = .ok (.invokevirtual 76, 3) := by decide +kernel
theorem dL_law_261 : decode cL_law 261 = .ok (.iload 5, 2) := by decide +kernel
theorem dL_law_263 : decode cL_law 263 = .ok (.if_icmp .eq 5, 3) := by decide +kernel
theorem dL_law_266 : decode cL_law 266 = .ok (.iconst 0, 1) := by decide +kernel
theorem dL_law_267 : decode cL_law 267 = .ok (.ireturn, 1) := by decide +kernel
theorem dL_law_268 : decode cL_law 268 = .ok (.iload 5, 2) := by decide +kernel
theorem dL_law_270 : decode cL_law 270 = .ok (.ifCond .ne 14, 3) := by decide +kernel
theorem dL_law_273 : decode cL_law 273 = .ok (.aload_n 3, 1) := by decide +kernel
theorem dL_law_274 : decode cL_law 274 = .ok (.iconst 0, 1) := by decide +kernel
theorem dL_law_275 : decode cL_law 275 = .ok (.laload, 1) := by decide +kernel
theorem dL_law_276 : decode cL_law 276 = .ok (.lload 6, 2) := by decide +kernel
theorem dL_law_278 : decode cL_law 278 = .ok (.lcmp, 1) := by decide +kernel
theorem dL_law_279 : decode cL_law 279 = .ok (.ifCond .eq 5, 3) := by decide +kernel
theorem dL_law_282 : decode cL_law 282 = .ok (.iconst 0, 1) := by decide +kernel
theorem dL_law_283 : decode cL_law 283 = .ok (.ireturn, 1) := by decide +kernel
theorem dL_law_284 : decode cL_law 284 = .ok (.goto 693, 3) := by decide +kernel
theorem dL_law_287 : decode cL_law 287 = .ok (.aload_n 1, 1) := by decide +kernel
theorem dL_law_288 : decode cL_law 288 = .ok (.aload_n 0, 1) := by decide +kernel
theorem dL_law_289 : decode cL_law 289 = .ok (.iload 4, 2) := by decide +kernel
theorem dL_law_291 : decode cL_law 291 = .ok (.iconst 1, 1) := by decide +kernel
theorem dL_law_292 : decode cL_law 292 = .ok (.iadd, 1) := by decide +kernel
theorem dL_law_293 : decode cL_law 293 = .ok (.iaload, 1) := by decide +kernel
theorem dL_law_294 : decode cL_law 294 = .ok (.aload_n 0, 1) := by decide +kernel
theorem dL_law_295 : decode cL_law 295 = .ok (.iload 4, 2) := by decide +kernel
theorem dL_law_297 : decode cL_law 297 = .ok (.iconst 2, 1) := by decide +kernel
theorem dL_law_298 : decode cL_law 298 = .ok (.iadd, 1) := by decide +kernel
theorem dL_law_299 : decode cL_law 299 = .ok (.iaload, 1) := by decide +kernel
theorem dL_law_300 : decode cL_law 300 = .ok (.aload_n 0, 1) := by decide +kernel
theorem dL_law_301 : decode cL_law 301 = .ok (.iload 4, 2) := by decide +kernel
theorem dL_law_303 : decode cL_law 303 = .ok (.iconst 3, 1) := by decide +kernel
theorem dL_law_304 : decode cL_law 304 = .ok (.iadd, 1) := by decide +kernel
theorem dL_law_305 : decode cL_law 305 = .ok (.iaload, 1) := by decide +kernel
theorem dL_law_306 : decode cL_law 306 = .ok (.i2l, 1) := by decide +kernel
theorem dL_law_307 : decode cL_law 307 = .ok (.bipush 32, 2) := by decide +kernel
theorem dL_law_309 : decode cL_law 309 = .ok (.lshl, 1) := by decide +kernel
theorem dL_law_310 : decode cL_law 310 = .ok (.aload_n 0, 1) := by decide +kernel
theorem dL_law_311 : decode cL_law 311 = .ok (.iload 4, 2) := by decide +kernel
theorem dL_law_313 : decode cL_law 313 = .ok (.iconst 4, 1) := by decide +kernel
theorem dL_law_314 : decode cL_law 314 = .ok (.iadd, 1) := by decide +kernel
theorem dL_law_315 : decode cL_law 315 = .ok (.iaload, 1) := by decide +kernel
theorem dL_law_316 : decode cL_law 316 = .ok (.i2l, 1) := by decide +kernel
theorem dL_law_317 : decode cL_law 317 = .ok (.ldc2_w 87, 3) := by decide +kernel
theorem dL_law_320 : decode cL_law 320 = .ok (.land, 1) := by decide +kernel
theorem dL_law_321 : decode cL_law 321 = .ok (.lor, 1) := by decide +kernel
theorem dL_law_322 : decode cL_law 322 = .ok (.invokestatic 89, 3) := by decide +kernel
theorem dL_law_325 : decode cL_law 325 = .ok (.istore 5, 2) := by decide +kernel
theorem dL_law_327 : decode cL_law 327 = .ok (.aload_n 2, 1) := by decide +kernel
theorem dL_law_328 : decode cL_law 328 = .ok (.aload_n 0, 1) := by decide +kernel
theorem dL_law_329 : decode cL_law 329 = .ok (.iload 4, 2) := by decide +kernel
theorem dL_law_331 : decode cL_law 331 = .ok (.iconst 1, 1) := by decide +kernel
theorem dL_law_332 : decode cL_law 332 = .ok (.iadd, 1) := by decide +kernel
theorem dL_law_333 : decode cL_law 333 = .ok (.iaload, 1) := by decide +kernel
theorem dL_law_334 : decode cL_law 334 = .ok (.aload_n 0, 1) := by decide +kernel
theorem dL_law_335 : decode cL_law 335 = .ok (.iload 4, 2) := by decide +kernel
theorem dL_law_337 : decode cL_law 337 = .ok (.iconst 2, 1) := by decide +kernel
theorem dL_law_338 : decode cL_law 338 = .ok (.iadd, 1) := by decide +kernel
theorem dL_law_339 : decode cL_law 339 = .ok (.iaload, 1) := by decide +kernel
theorem dL_law_340 : decode cL_law 340 = .ok (.aload_n 0, 1) := by decide +kernel
theorem dL_law_341 : decode cL_law 341 = .ok (.iload 4, 2) := by decide +kernel
theorem dL_law_343 : decode cL_law 343 = .ok (.iconst 3, 1) := by decide +kernel
theorem dL_law_344 : decode cL_law 344 = .ok (.iadd, 1) := by decide +kernel
theorem dL_law_345 : decode cL_law 345 = .ok (.iaload, 1) := by decide +kernel
theorem dL_law_346 : decode cL_law 346 = .ok (.i2l, 1) := by decide +kernel
theorem dL_law_347 : decode cL_law 347 = .ok (.bipush 32, 2) := by decide +kernel
theorem dL_law_349 : decode cL_law 349 = .ok (.lshl, 1) := by decide +kernel
theorem dL_law_350 : decode cL_law 350 = .ok (.aload_n 0, 1) := by decide +kernel
theorem dL_law_351 : decode cL_law 351 = .ok (.iload 4, 2) := by decide +kernel
theorem dL_law_353 : decode cL_law 353 = .ok (.iconst 4, 1) := by decide +kernel
theorem dL_law_354 : decode cL_law 354 = .ok (.iadd, 1) := by decide +kernel
theorem dL_law_355 : decode cL_law 355 = .ok (.iaload, 1) := by decide +kernel
theorem dL_law_356 : decode cL_law 356 = .ok (.i2l, 1) := by decide +kernel
theorem dL_law_357 : decode cL_law 357 = .ok (.ldc2_w 87, 3) := by decide +kernel
theorem dL_law_360 : decode cL_law 360 = .ok (.land, 1) := by decide +kernel
theorem dL_law_361 : decode cL_law 361 = .ok (.lor, 1) := by decide +kernel
theorem dL_law_362 : decode cL_law 362 = .ok (.invokevirtual 92, 3) := by decide +kernel
theorem dL_law_365 : decode cL_law 365 = .ok (.aload_n 2, 1) := by decide +kernel
theorem dL_law_366 : decode cL_law 366 = .ok (.invokevirtual 76, 3) := by decide +kernel
theorem dL_law_369 : decode cL_law 369 = .ok (.iload 5, 2) := by decide +kernel
theorem dL_law_371 : decode cL_law 371 = .ok (.if_icmp .eq 5, 3) := by decide +kernel
theorem dL_law_374 : decode cL_law 374 = .ok (.iconst 0, 1) := by decide +kernel
theorem dL_law_375 : decode cL_law 375 = .ok (.ireturn, 1) := by decide +kernel
theorem dL_law_376 : decode cL_law 376 = .ok (.goto 601, 3) := by decide +kernel
theorem dL_law_379 : decode cL_law 379 = .ok (.aload_n 1, 1) := by decide +kernel
theorem dL_law_380 : decode cL_law 380 = .ok (.aload_n 0, 1) := by decide +kernel
theorem dL_law_381 : decode cL_law 381 = .ok (.iload 4, 2) := by decide +kernel
theorem dL_law_383 : decode cL_law 383 = .ok (.iconst 1, 1) := by decide +kernel
theorem dL_law_384 : decode cL_law 384 = .ok (.iadd, 1) := by decide +kernel
theorem dL_law_385 : decode cL_law 385 = .ok (.iaload, 1) := by decide +kernel
theorem dL_law_386 : decode cL_law 386 = .ok (.aload_n 0, 1) := by decide +kernel
theorem dL_law_387 : decode cL_law 387 = .ok (.iload 4, 2) := by decide +kernel
theorem dL_law_389 : decode cL_law 389 = .ok (.iconst 2, 1) := by decide +kernel
theorem dL_law_390 : decode cL_law 390 = .ok (.iadd, 1) := by decide +kernel
theorem dL_law_391 : decode cL_law 391 = .ok (.iaload, 1) := by decide +kernel
theorem dL_law_392 : decode cL_law 392 = .ok (.invokestatic 93, 3) := by decide +kernel
theorem dL_law_395 : decode cL_law 395 = .ok (.istore 5, 2) := by decide +kernel
theorem dL_law_397 : decode cL_law 397 = .ok (.aload_n 2, 1) := by decide +kernel
theorem dL_law_398 : decode cL_law 398 = .ok (.aload_n 0, 1) := by decide +kernel
theorem dL_law_399 : decode cL_law 399 = .ok (.iload 4, 2) := by decide +kernel
theorem dL_law_401 : decode cL_law 401 = .ok (.iconst 1, 1) := by decide +kernel
theorem dL_law_402 : decode cL_law 402 = .ok (.iadd, 1) := by decide +kernel
theorem dL_law_403 : decode cL_law 403 = .ok (.iaload, 1) := by decide +kernel
theorem dL_law_404 : decode cL_law 404 = .ok (.aload_n 0, 1) := by decide +kernel
theorem dL_law_405 : decode cL_law 405 = .ok (.iload 4, 2) := by decide +kernel
theorem dL_law_407 : decode cL_law 407 = .ok (.iconst 2, 1) := by decide +kernel
theorem dL_law_408 : decode cL_law 408 = .ok (.iadd, 1) := by decide +kernel
theorem dL_law_409 : decode cL_law 409 = .ok (.iaload, 1) := by decide +kernel
theorem dL_law_410 : decode cL_law 410 = .ok (.invokevirtual 96, 3) := by decide +kernel
theorem dL_law_413 : decode cL_law 413 = .ok (.aload_n 2, 1) := by decide +kernel
theorem dL_law_414 : decode cL_law 414 = .ok (.invokevirtual 76, 3) := by decide +kernel
theorem dL_law_417 : decode cL_law 417 = .ok (.iload 5, 2) := by decide +kernel
theorem dL_law_419 : decode cL_law 419 = .ok (.if_icmp .eq 5, 3) := by decide +kernel
theorem dL_law_422 : decode cL_law 422 = .ok (.iconst 0, 1) := by decide +kernel
theorem dL_law_423 : decode cL_law 423 = .ok (.ireturn, 1) := by decide +kernel
theorem dL_law_424 : decode cL_law 424 = .ok (.goto 553, 3) := by decide +kernel
theorem dL_law_427 : decode cL_law 427 = .ok (.aload_n 1, 1) := by decide +kernel
theorem dL_law_428 : decode cL_law 428 = .ok (.aload_n 0, 1) := by decide +kernel
theorem dL_law_429 : decode cL_law 429 = .ok (.iload 4, 2) := by decide +kernel
theorem dL_law_431 : decode cL_law 431 = .ok (.iconst 1, 1) := by decide +kernel
theorem dL_law_432 : decode cL_law 432 = .ok (.iadd, 1) := by decide +kernel
theorem dL_law_433 : decode cL_law 433 = .ok (.iaload, 1) := by decide +kernel
theorem dL_law_434 : decode cL_law 434 = .ok (.aload_n 3, 1) := by decide +kernel
theorem dL_law_435 : decode cL_law 435 = .ok (.invokestatic 97, 3) := by decide +kernel
theorem dL_law_438 : decode cL_law 438 = .ok (.istore 5, 2) := by decide +kernel
theorem dL_law_440 : decode cL_law 440 = .ok (.aload_n 2, 1) := by decide +kernel
theorem dL_law_441 : decode cL_law 441 = .ok (.aload_n 0, 1) := by decide +kernel
theorem dL_law_442 : decode cL_law 442 = .ok (.iload 4, 2) := by decide +kernel
theorem dL_law_444 : decode cL_law 444 = .ok (.iconst 1, 1) := by decide +kernel
theorem dL_law_445 : decode cL_law 445 = .ok (.iadd, 1) := by decide +kernel
theorem dL_law_446 : decode cL_law 446 = .ok (.iaload, 1) := by decide +kernel
theorem dL_law_447 : decode cL_law 447 = .ok (.invokevirtual 99, 3) := by decide +kernel
theorem dL_law_450 : decode cL_law 450 = .ok (.istore 6, 2) := by decide +kernel
theorem dL_law_452 : decode cL_law 452 = .ok (.aload_n 2, 1) := by decide +kernel
theorem dL_law_453 : decode cL_law 453 = .ok (.invokevirtual 76, 3) := by decide +kernel
theorem dL_law_456 : decode cL_law 456 = .ok (.iload 5, 2) := by decide +kernel
theorem dL_law_458 : decode cL_law 458 = .ok (.if_icmp .eq 5, 3) := by decide +kernel
theorem dL_law_461 : decode cL_law 461 = .ok (.iconst 0, 1) := by decide +kernel
theorem dL_law_462 : decode cL_law 462 = .ok (.ireturn, 1) := by decide +kernel
theorem dL_law_463 : decode cL_law 463 = .ok (.iload 5, 2) := by decide +kernel
theorem dL_law_465 : decode cL_law 465 = .ok (.ifCond .ne 15, 3) := by decide +kernel
theorem dL_law_468 : decode cL_law 468 = .ok (.aload_n 3, 1) := by decide +kernel
theorem dL_law_469 : decode cL_law 469 = .ok (.iconst 0, 1) := by decide +kernel
theorem dL_law_470 : decode cL_law 470 = .ok (.laload, 1) := by decide +kernel
theorem dL_law_471 : decode cL_law 471 = .ok (.iload 6, 2) := by decide +kernel
theorem dL_law_473 : decode cL_law 473 = .ok (.i2l, 1) := by decide +kernel
theorem dL_law_474 : decode cL_law 474 = .ok (.lcmp, 1) := by decide +kernel
theorem dL_law_475 : decode cL_law 475 = .ok (.ifCond .eq 5, 3) := by decide +kernel
theorem dL_law_478 : decode cL_law 478 = .ok (.iconst 0, 1) := by decide +kernel
theorem dL_law_479 : decode cL_law 479 = .ok (.ireturn, 1) := by decide +kernel
theorem dL_law_480 : decode cL_law 480 = .ok (.goto 497, 3) := by decide +kernel
theorem dL_law_483 : decode cL_law 483 = .ok (.aload_n 1, 1) := by decide +kernel
theorem dL_law_484 : decode cL_law 484 = .ok (.aload_n 0, 1) := by decide +kernel
theorem dL_law_485 : decode cL_law 485 = .ok (.iload 4, 2) := by decide +kernel
theorem dL_law_487 : decode cL_law 487 = .ok (.iconst 1, 1) := by decide +kernel
theorem dL_law_488 : decode cL_law 488 = .ok (.iadd, 1) := by decide +kernel
theorem dL_law_489 : decode cL_law 489 = .ok (.iaload, 1) := by decide +kernel
theorem dL_law_490 : decode cL_law 490 = .ok (.aload_n 0, 1) := by decide +kernel
theorem dL_law_491 : decode cL_law 491 = .ok (.iload 4, 2) := by decide +kernel
theorem dL_law_493 : decode cL_law 493 = .ok (.iconst 2, 1) := by decide +kernel
theorem dL_law_494 : decode cL_law 494 = .ok (.iadd, 1) := by decide +kernel
theorem dL_law_495 : decode cL_law 495 = .ok (.iaload, 1) := by decide +kernel
theorem dL_law_496 : decode cL_law 496 = .ok (.invokestatic 100, 3) := by decide +kernel
theorem dL_law_499 : decode cL_law 499 = .ok (.istore 5, 2) := by decide +kernel
theorem dL_law_501 : decode cL_law 501 = .ok (.aload_n 2, 1) := by decide +kernel
theorem dL_law_502 : decode cL_law 502 = .ok (.aload_n 0, 1) := by decide +kernel
theorem dL_law_503 : decode cL_law 503 = .ok (.iload 4, 2) := by decide +kernel
theorem dL_law_505 : decode cL_law 505 = .ok (.iconst 1, 1) := by decide +kernel
theorem dL_law_506 : decode cL_law 506 = .ok (.iadd, 1) := by decide +kernel
theorem dL_law_507 : decode cL_law 507 = .ok (.iaload, 1) := by decide +kernel
theorem dL_law_508 : decode cL_law 508 = .ok (.aload_n 0, 1) := by decide +kernel
theorem dL_law_509 : decode cL_law 509 = .ok (.iload 4, 2) := by decide +kernel
theorem dL_law_511 : decode cL_law 511 = .ok (.iconst 2, 1) := by decide +kernel
theorem dL_law_512 : decode cL_law 512 = .ok (.iadd, 1) := by decide +kernel
theorem dL_law_513 : decode cL_law 513 = .ok (.iaload, 1) := by decide +kernel
theorem dL_law_514 : decode cL_law 514 = .ok (.invokevirtual 102, 3) := by decide +kernel
theorem dL_law_517 : decode cL_law 517 = .ok (.aload_n 2, 1) := by decide +kernel
theorem dL_law_518 : decode cL_law 518 = .ok (.invokevirtual 76, 3) := by decide +kernel
theorem dL_law_521 : decode cL_law 521 = .ok (.iload 5, 2) := by decide +kernel
theorem dL_law_523 : decode cL_law 523 = .ok (.if_icmp .eq 5, 3) := by decide +kernel
theorem dL_law_526 : decode cL_law 526 = .ok (.iconst 0, 1) := by decide +kernel
theorem dL_law_527 : decode cL_law 527 = .ok (.ireturn, 1) := by decide +kernel
theorem dL_law_528 : decode cL_law 528 = .ok (.goto 449, 3) := by decide +kernel
theorem dL_law_531 : decode cL_law 531 = .ok (.aload_n 1, 1) := by decide +kernel
theorem dL_law_532 : decode cL_law 532 = .ok (.aload_n 0, 1) := by decide +kernel
theorem dL_law_533 : decode cL_law 533 = .ok (.iload 4, 2) := by decide +kernel
theorem dL_law_535 : decode cL_law 535 = .ok (.iconst 1, 1) := by decide +kernel
theorem dL_law_536 : decode cL_law 536 = .ok (.iadd, 1) := by decide +kernel
theorem dL_law_537 : decode cL_law 537 = .ok (.iaload, 1) := by decide +kernel
theorem dL_law_538 : decode cL_law 538 = .ok (.aload_n 0, 1) := by decide +kernel
theorem dL_law_539 : decode cL_law 539 = .ok (.iload 4, 2) := by decide +kernel
theorem dL_law_541 : decode cL_law 541 = .ok (.iconst 2, 1) := by decide +kernel
theorem dL_law_542 : decode cL_law 542 = .ok (.iadd, 1) := by decide +kernel
theorem dL_law_543 : decode cL_law 543 = .ok (.iaload, 1) := by decide +kernel
theorem dL_law_544 : decode cL_law 544 = .ok (.aload_n 3, 1) := by decide +kernel
theorem dL_law_545 : decode cL_law 545 = .ok (.invokestatic 103, 3) := by decide +kernel
theorem dL_law_548 : decode cL_law 548 = .ok (.istore 5, 2) := by decide +kernel
theorem dL_law_550 : decode cL_law 550 = .ok (.aload_n 2, 1) := by decide +kernel
theorem dL_law_551 : decode cL_law 551 = .ok (.aload_n 0, 1) := by decide +kernel
theorem dL_law_552 : decode cL_law 552 = .ok (.iload 4, 2) := by decide +kernel
theorem dL_law_554 : decode cL_law 554 = .ok (.iconst 1, 1) := by decide +kernel
theorem dL_law_555 : decode cL_law 555 = .ok (.iadd, 1) := by decide +kernel
theorem dL_law_556 : decode cL_law 556 = .ok (.iaload, 1) := by decide +kernel
theorem dL_law_557 : decode cL_law 557 = .ok (.aload_n 0, 1) := by decide +kernel
theorem dL_law_558 : decode cL_law 558 = .ok (.iload 4, 2) := by decide +kernel
theorem dL_law_560 : decode cL_law 560 = .ok (.iconst 2, 1) := by decide +kernel
theorem dL_law_561 : decode cL_law 561 = .ok (.iadd, 1) := by decide +kernel
theorem dL_law_562 : decode cL_law 562 = .ok (.iaload, 1) := by decide +kernel
theorem dL_law_563 : decode cL_law 563 = .ok (.invokevirtual 105, 3) := by decide +kernel
theorem dL_law_566 : decode cL_law 566 = .ok (.istore 6, 2) := by decide +kernel
theorem dL_law_568 : decode cL_law 568 = .ok (.aload_n 2, 1) := by decide +kernel
theorem dL_law_569 : decode cL_law 569 = .ok (.invokevirtual 76, 3) := by decide +kernel
theorem dL_law_572 : decode cL_law 572 = .ok (.iload 5, 2) := by decide +kernel
theorem dL_law_574 : decode cL_law 574 = .ok (.if_icmp .eq 5, 3) := by decide +kernel
theorem dL_law_577 : decode cL_law 577 = .ok (.iconst 0, 1) := by decide +kernel
theorem dL_law_578 : decode cL_law 578 = .ok (.ireturn, 1) := by decide +kernel
theorem dL_law_579 : decode cL_law 579 = .ok (.iload 5, 2) := by decide +kernel
theorem dL_law_581 : decode cL_law 581 = .ok (.ifCond .ne 15, 3) := by decide +kernel
theorem dL_law_584 : decode cL_law 584 = .ok (.aload_n 3, 1) := by decide +kernel
theorem dL_law_585 : decode cL_law 585 = .ok (.iconst 0, 1) := by decide +kernel
theorem dL_law_586 : decode cL_law 586 = .ok (.laload, 1) := by decide +kernel
theorem dL_law_587 : decode cL_law 587 = .ok (.iload 6, 2) := by decide +kernel
theorem dL_law_589 : decode cL_law 589 = .ok (.i2l, 1) := by decide +kernel
theorem dL_law_590 : decode cL_law 590 = .ok (.lcmp, 1) := by decide +kernel
theorem dL_law_591 : decode cL_law 591 = .ok (.ifCond .eq 5, 3) := by decide +kernel
theorem dL_law_594 : decode cL_law 594 = .ok (.iconst 0, 1) := by decide +kernel
theorem dL_law_595 : decode cL_law 595 = .ok (.ireturn, 1) := by decide +kernel
theorem dL_law_596 : decode cL_law 596 = .ok (.goto 381, 3) := by decide +kernel
theorem dL_law_599 : decode cL_law 599 = .ok (.aload_n 1, 1) := by decide +kernel
theorem dL_law_600 : decode cL_law 600 = .ok (.aload_n 0, 1) := by decide +kernel
theorem dL_law_601 : decode cL_law 601 = .ok (.iload 4, 2) := by decide +kernel
theorem dL_law_603 : decode cL_law 603 = .ok (.iconst 1, 1) := by decide +kernel
theorem dL_law_604 : decode cL_law 604 = .ok (.iadd, 1) := by decide +kernel
theorem dL_law_605 : decode cL_law 605 = .ok (.iaload, 1) := by decide +kernel
theorem dL_law_606 : decode cL_law 606 = .ok (.aload_n 3, 1) := by decide +kernel
theorem dL_law_607 : decode cL_law 607 = .ok (.invokestatic 106, 3) := by decide +kernel
theorem dL_law_610 : decode cL_law 610 = .ok (.istore 5, 2) := by decide +kernel
theorem dL_law_612 : decode cL_law 612 = .ok (.aload_n 2, 1) := by decide +kernel
theorem dL_law_613 : decode cL_law 613 = .ok (.aload_n 0, 1) := by decide +kernel
theorem dL_law_614 : decode cL_law 614 = .ok (.iload 4, 2) := by decide +kernel
theorem dL_law_616 : decode cL_law 616 = .ok (.iconst 1, 1) := by decide +kernel
theorem dL_law_617 : decode cL_law 617 = .ok (.iadd, 1) := by decide +kernel
theorem dL_law_618 : decode cL_law 618 = .ok (.iaload, 1) := by decide +kernel
theorem dL_law_619 : decode cL_law 619 = .ok (.invokevirtual 108, 3) := by decide +kernel
theorem dL_law_622 : decode cL_law 622 = .ok (.istore 6, 2) := by decide +kernel
theorem dL_law_624 : decode cL_law 624 = .ok (.aload_n 2, 1) := by decide +kernel
theorem dL_law_625 : decode cL_law 625 = .ok (.invokevirtual 76, 3) := by decide +kernel
theorem dL_law_628 : decode cL_law 628 = .ok (.iload 5, 2) := by decide +kernel
theorem dL_law_630 : decode cL_law 630 = .ok (.if_icmp .eq 5, 3) := by decide +kernel
theorem dL_law_633 : decode cL_law 633 = .ok (.iconst 0, 1) := by decide +kernel
theorem dL_law_634 : decode cL_law 634 = .ok (.ireturn, 1) := by decide +kernel
theorem dL_law_635 : decode cL_law 635 = .ok (.iload 5, 2) := by decide +kernel
theorem dL_law_637 : decode cL_law 637 = .ok (.ifCond .ne 15, 3) := by decide +kernel
theorem dL_law_640 : decode cL_law 640 = .ok (.aload_n 3, 1) := by decide +kernel
theorem dL_law_641 : decode cL_law 641 = .ok (.iconst 0, 1) := by decide +kernel
theorem dL_law_642 : decode cL_law 642 = .ok (.laload, 1) := by decide +kernel
theorem dL_law_643 : decode cL_law 643 = .ok (.iload 6, 2) := by decide +kernel
theorem dL_law_645 : decode cL_law 645 = .ok (.i2l, 1) := by decide +kernel
theorem dL_law_646 : decode cL_law 646 = .ok (.lcmp, 1) := by decide +kernel
theorem dL_law_647 : decode cL_law 647 = .ok (.ifCond .eq 5, 3) := by decide +kernel
theorem dL_law_650 : decode cL_law 650 = .ok (.iconst 0, 1) := by decide +kernel
theorem dL_law_651 : decode cL_law 651 = .ok (.ireturn, 1) := by decide +kernel
theorem dL_law_652 : decode cL_law 652 = .ok (.goto 325, 3) := by decide +kernel
theorem dL_law_655 : decode cL_law 655 = .ok (.aload_n 1, 1) := by decide +kernel
theorem dL_law_656 : decode cL_law 656 = .ok (.aload_n 0, 1) := by decide +kernel
theorem dL_law_657 : decode cL_law 657 = .ok (.iload 4, 2) := by decide +kernel
theorem dL_law_659 : decode cL_law 659 = .ok (.iconst 1, 1) := by decide +kernel
theorem dL_law_660 : decode cL_law 660 = .ok (.iadd, 1) := by decide +kernel
theorem dL_law_661 : decode cL_law 661 = .ok (.iaload, 1) := by decide +kernel
theorem dL_law_662 : decode cL_law 662 = .ok (.invokestatic 109, 3) := by decide +kernel
theorem dL_law_665 : decode cL_law 665 = .ok (.istore 5, 2) := by decide +kernel
theorem dL_law_667 : decode cL_law 667 = .ok (.aload_n 2, 1) := by decide +kernel
theorem dL_law_668 : decode cL_law 668 = .ok (.aload_n 0, 1) := by decide +kernel
theorem dL_law_669 : decode cL_law 669 = .ok (.iload 4, 2) := by decide +kernel
theorem dL_law_671 : decode cL_law 671 = .ok (.iconst 1, 1) := by decide +kernel
theorem dL_law_672 : decode cL_law 672 = .ok (.iadd, 1) := by decide +kernel
theorem dL_law_673 : decode cL_law 673 = .ok (.iaload, 1) := by decide +kernel
theorem dL_law_674 : decode cL_law 674 = .ok (.invokevirtual 112, 3) := by decide +kernel
theorem dL_law_677 : decode cL_law 677 = .ok (.aload_n 2, 1) := by decide +kernel
theorem dL_law_678 : decode cL_law 678 = .ok (.invokevirtual 76, 3) := by decide +kernel
theorem dL_law_681 : decode cL_law 681 = .ok (.iload 5, 2) := by decide +kernel
theorem dL_law_683 : decode cL_law 683 = .ok (.if_icmp .eq 5, 3) := by decide +kernel
theorem dL_law_686 : decode cL_law 686 = .ok (.iconst 0, 1) := by decide +kernel
theorem dL_law_687 : decode cL_law 687 = .ok (.ireturn, 1) := by decide +kernel
theorem dL_law_688 : decode cL_law 688 = .ok (.goto 289, 3) := by decide +kernel
theorem dL_law_691 : decode cL_law 691 = .ok (.aload_n 1, 1) := by decide +kernel
theorem dL_law_692 : decode cL_law 692 = .ok (.invokevirtual 113, 3) := by decide +kernel
theorem dL_law_695 : decode cL_law 695 = .ok (.aload_n 2, 1) := by decide +kernel
theorem dL_law_696 : decode cL_law 696 = .ok (.invokevirtual 116, 3) := by decide +kernel
theorem dL_law_699 : decode cL_law 699 = .ok (.if_icmp .eq 278, 3) := by decide +kernel
theorem dL_law_702 : decode cL_law 702 = .ok (.iconst 0, 1) := by decide +kernel
theorem dL_law_703 : decode cL_law 703 = .ok (.ireturn, 1) := by decide +kernel
theorem dL_law_704 : decode cL_law 704 = .ok (.aload_n 1, 1) := by decide +kernel
theorem dL_law_705 : decode cL_law 705 = .ok (.invokevirtual 117, 3) := by decide +kernel
theorem dL_law_708 : decode cL_law 708 = .ok (.aload_n 2, 1) := by decide +kernel
theorem dL_law_709 : decode cL_law 709 = .ok (.invokevirtual 120, 3) := by decide +kernel
theorem dL_law_712 : decode cL_law 712 = .ok (.if_icmp .eq 265, 3) := by decide +kernel
theorem dL_law_715 : decode cL_law 715 = .ok (.iconst 0, 1) := by decide +kernel
theorem dL_law_716 : decode cL_law 716 = .ok (.ireturn, 1) := by decide +kernel
theorem dL_law_717 : decode cL_law 717 = .ok (.aload_n 1, 1) := by decide +kernel
theorem dL_law_718 : decode cL_law 718 = .ok (.invokevirtual 121, 3) := by decide +kernel
theorem dL_law_721 : decode cL_law 721 = .ok (.aload_n 2, 1) := by decide +kernel
theorem dL_law_722 : decode cL_law 722 = .ok (.invokevirtual 124, 3) := by decide +kernel
theorem dL_law_725 : decode cL_law 725 = .ok (.if_icmp .eq 252, 3) := by decide +kernel
theorem dL_law_728 : decode cL_law 728 = .ok (.iconst 0, 1) := by decide +kernel
theorem dL_law_729 : decode cL_law 729 = .ok (.ireturn, 1) := by decide +kernel
theorem dL_law_730 : decode cL_law 730 = .ok (.aload_n 1, 1) := by decide +kernel
theorem dL_law_731 : decode cL_law 731 = .ok (.aload_n 0, 1) := by decide +kernel
theorem dL_law_732 : decode cL_law 732 = .ok (.iload 4, 2) := by decide +kernel
theorem dL_law_734 : decode cL_law 734 = .ok (.iconst 1, 1) := by decide +kernel
theorem dL_law_735 : decode cL_law 735 = .ok (.iadd, 1) := by decide +kernel
theorem dL_law_736 : decode cL_law 736 = .ok (.iaload, 1) := by decide +kernel
theorem dL_law_737 : decode cL_law 737 = .ok (.aload_n 3, 1) := by decide +kernel
theorem dL_law_738 : decode cL_law 738 = .ok (.invokestatic 125, 3) := by decide +kernel
theorem dL_law_741 : decode cL_law 741 = .ok (.istore 5, 2) := by decide +kernel
theorem dL_law_743 : decode cL_law 743 = .ok (.aload_n 2, 1) := by decide +kernel
theorem dL_law_744 : decode cL_law 744 = .ok (.aload_n 0, 1) := by decide +kernel
theorem dL_law_745 : decode cL_law 745 = .ok (.iload 4, 2) := by decide +kernel
theorem dL_law_747 : decode cL_law 747 = .ok (.iconst 1, 1) := by decide +kernel
theorem dL_law_748 : decode cL_law 748 = .ok (.iadd, 1) := by decide +kernel
theorem dL_law_749 : decode cL_law 749 = .ok (.iaload, 1) := by decide +kernel
theorem dL_law_750 : decode cL_law 750 = .ok (.invokevirtual 127, 3) := by decide +kernel
theorem dL_law_753 : decode cL_law 753 = .ok (.istore 6, 2) := by decide +kernel
theorem dL_law_755 : decode cL_law 755 = .ok (.aload_n 2, 1) := by decide +kernel
theorem dL_law_756 : decode cL_law 756 = .ok (.invokevirtual 76, 3) := by decide +kernel
theorem dL_law_759 : decode cL_law 759 = .ok (.iload 5, 2) := by decide +kernel
theorem dL_law_761 : decode cL_law 761 = .ok (.if_icmp .eq 5, 3) := by decide +kernel
theorem dL_law_764 : decode cL_law 764 = .ok (.iconst 0, 1) := by decide +kernel
theorem dL_law_765 : decode cL_law 765 = .ok (.ireturn, 1) := by decide +kernel
theorem dL_law_766 : decode cL_law 766 = .ok (.iload 5, 2) := by decide +kernel
theorem dL_law_768 : decode cL_law 768 = .ok (.ifCond .ne 15, 3) := by decide +kernel
theorem dL_law_771 : decode cL_law 771 = .ok (.aload_n 3, 1) := by decide +kernel
theorem dL_law_772 : decode cL_law 772 = .ok (.iconst 0, 1) := by decide +kernel
theorem dL_law_773 : decode cL_law 773 = .ok (.laload, 1) := by decide +kernel
theorem dL_law_774 : decode cL_law 774 = .ok (.iload 6, 2) := by decide +kernel
theorem dL_law_776 : decode cL_law 776 = .ok (.i2l, 1) := by decide +kernel
theorem dL_law_777 : decode cL_law 777 = .ok (.lcmp, 1) := by decide +kernel
theorem dL_law_778 : decode cL_law 778 = .ok (.ifCond .eq 5, 3) := by decide +kernel
theorem dL_law_781 : decode cL_law 781 = .ok (.iconst 0, 1) := by decide +kernel
theorem dL_law_782 : decode cL_law 782 = .ok (.ireturn, 1) := by decide +kernel
theorem dL_law_783 : decode cL_law 783 = .ok (.goto 194, 3) := by decide +kernel
theorem dL_law_786 : decode cL_law 786 = .ok (.aload_n 1, 1) := by decide +kernel
theorem dL_law_787 : decode cL_law 787 = .ok (.aload_n 0, 1) := by decide +kernel
theorem dL_law_788 : decode cL_law 788 = .ok (.iload 4, 2) := by decide +kernel
theorem dL_law_790 : decode cL_law 790 = .ok (.iconst 1, 1) := by decide +kernel
theorem dL_law_791 : decode cL_law 791 = .ok (.iadd, 1) := by decide +kernel
theorem dL_law_792 : decode cL_law 792 = .ok (.iaload, 1) := by decide +kernel
theorem dL_law_793 : decode cL_law 793 = .ok (.aload_n 3, 1) := by decide +kernel
theorem dL_law_794 : decode cL_law 794 = .ok (.invokestatic 128, 3) := by decide +kernel
theorem dL_law_797 : decode cL_law 797 = .ok (.istore 5, 2) := by decide +kernel
theorem dL_law_799 : decode cL_law 799 = .ok (.aload_n 2, 1) := by decide +kernel
theorem dL_law_800 : decode cL_law 800 = .ok (.aload_n 0, 1) := by decide +kernel
theorem dL_law_801 : decode cL_law 801 = .ok (.iload 4, 2) := by decide +kernel
theorem dL_law_803 : decode cL_law 803 = .ok (.iconst 1, 1) := by decide +kernel
theorem dL_law_804 : decode cL_law 804 = .ok (.iadd, 1) := by decide +kernel
theorem dL_law_805 : decode cL_law 805 = .ok (.iaload, 1) := by decide +kernel
theorem dL_law_806 : decode cL_law 806 = .ok (.invokevirtual 130, 3) := by decide +kernel
theorem dL_law_809 : decode cL_law 809 = .ok (.istore 6, 2) := by decide +kernel
theorem dL_law_811 : decode cL_law 811 = .ok (.aload_n 2, 1) := by decide +kernel
theorem dL_law_812 : decode cL_law 812 = .ok (.invokevirtual 76, 3) := by decide +kernel
theorem dL_law_815 : decode cL_law 815 = .ok (.iload 5, 2) := by decide +kernel
theorem dL_law_817 : decode cL_law 817 = .ok (.if_icmp .eq 5, 3) := by decide +kernel
theorem dL_law_820 : decode cL_law 820 = .ok (.iconst 0, 1) := by decide +kernel
theorem dL_law_821 : decode cL_law 821 = .ok (.ireturn, 1) := by decide +kernel
theorem dL_law_822 : decode cL_law 822 = .ok (.iload 5, 2) := by decide +kernel
theorem dL_law_824 : decode cL_law 824 = .ok (.ifCond .ne 15, 3) := by decide +kernel
theorem dL_law_827 : decode cL_law 827 = .ok (.aload_n 3, 1) := by decide +kernel
theorem dL_law_828 : decode cL_law 828 = .ok (.iconst 0, 1) := by decide +kernel
theorem dL_law_829 : decode cL_law 829 = .ok (.laload, 1) := by decide +kernel
theorem dL_law_830 : decode cL_law 830 = .ok (.iload 6, 2) := by decide +kernel
theorem dL_law_832 : decode cL_law 832 = .ok (.i2l, 1) := by decide +kernel
theorem dL_law_833 : decode cL_law 833 = .ok (.lcmp, 1) := by decide +kernel
theorem dL_law_834 : decode cL_law 834 = .ok (.ifCond .eq 5, 3) := by decide +kernel
theorem dL_law_837 : decode cL_law 837 = .ok (.iconst 0, 1) := by decide +kernel
theorem dL_law_838 : decode cL_law 838 = .ok (.ireturn, 1) := by decide +kernel
theorem dL_law_839 : decode cL_law 839 = .ok (.goto 138, 3) := by decide +kernel
theorem dL_law_842 : decode cL_law 842 = .ok (.aload_n 1, 1) := by decide +kernel
theorem dL_law_843 : decode cL_law 843 = .ok (.aload_n 0, 1) := by decide +kernel
theorem dL_law_844 : decode cL_law 844 = .ok (.iload 4, 2) := by decide +kernel
theorem dL_law_846 : decode cL_law 846 = .ok (.iconst 1, 1) := by decide +kernel
theorem dL_law_847 : decode cL_law 847 = .ok (.iadd, 1) := by decide +kernel
theorem dL_law_848 : decode cL_law 848 = .ok (.iaload, 1) := by decide +kernel
theorem dL_law_849 : decode cL_law 849 = .ok (.aload_n 0, 1) := by decide +kernel
theorem dL_law_850 : decode cL_law 850 = .ok (.iload 4, 2) := by decide +kernel
theorem dL_law_852 : decode cL_law 852 = .ok (.iconst 2, 1) := by decide +kernel
theorem dL_law_853 : decode cL_law 853 = .ok (.iadd, 1) := by decide +kernel
theorem dL_law_854 : decode cL_law 854 = .ok (.iaload, 1) := by decide +kernel
theorem dL_law_855 : decode cL_law 855 = .ok (.aload_n 3, 1) := by decide +kernel
theorem dL_law_856 : decode cL_law 856 = .ok (.invokestatic 131, 3) := by decide +kernel
theorem dL_law_859 : decode cL_law 859 = .ok (.istore 5, 2) := by decide +kernel
theorem dL_law_861 : decode cL_law 861 = .ok (.aload_n 2, 1) := by decide +kernel
theorem dL_law_862 : decode cL_law 862 = .ok (.aload_n 0, 1) := by decide +kernel
theorem dL_law_863 : decode cL_law 863 = .ok (.iload 4, 2) := by decide +kernel
theorem dL_law_865 : decode cL_law 865 = .ok (.iconst 1, 1) := by decide +kernel
theorem dL_law_866 : decode cL_law 866 = .ok (.iadd, 1) := by decide +kernel
theorem dL_law_867 : decode cL_law 867 = .ok (.iaload, 1) := by decide +kernel
theorem dL_law_868 : decode cL_law 868 = .ok (.aload_n 0, 1) := by decide +kernel
theorem dL_law_869 : decode cL_law 869 = .ok (.iload 4, 2) := by decide +kernel
theorem dL_law_871 : decode cL_law 871 = .ok (.iconst 2, 1) := by decide +kernel
theorem dL_law_872 : decode cL_law 872 = .ok (.iadd, 1) := by decide +kernel
theorem dL_law_873 : decode cL_law 873 = .ok (.iaload, 1) := by decide +kernel
theorem dL_law_874 : decode cL_law 874 = .ok (.invokevirtual 133, 3) := by decide +kernel
theorem dL_law_877 : decode cL_law 877 = .ok (.istore 6, 2) := by decide +kernel
theorem dL_law_879 : decode cL_law 879 = .ok (.aload_n 2, 1) := by decide +kernel
theorem dL_law_880 : decode cL_law 880 = .ok (.invokevirtual 76, 3) := by decide +kernel
theorem dL_law_883 : decode cL_law 883 = .ok (.iload 5, 2) := by decide +kernel
theorem dL_law_885 : decode cL_law 885 = .ok (.if_icmp .eq 5, 3) := by decide +kernel
theorem dL_law_888 : decode cL_law 888 = .ok (.iconst 0, 1) := by decide +kernel
theorem dL_law_889 : decode cL_law 889 = .ok (.ireturn, 1) := by decide +kernel
theorem dL_law_890 : decode cL_law 890 = .ok (.iload 5, 2) := by decide +kernel
theorem dL_law_892 : decode cL_law 892 = .ok (.ifCond .ne 15, 3) := by decide +kernel
theorem dL_law_895 : decode cL_law 895 = .ok (.aload_n 3, 1) := by decide +kernel
theorem dL_law_896 : decode cL_law 896 = .ok (.iconst 0, 1) := by decide +kernel
theorem dL_law_897 : decode cL_law 897 = .ok (.laload, 1) := by decide +kernel
theorem dL_law_898 : decode cL_law 898 = .ok (.iload 6, 2) := by decide +kernel
theorem dL_law_900 : decode cL_law 900 = .ok (.i2l, 1) := by decide +kernel
theorem dL_law_901 : decode cL_law 901 = .ok (.lcmp, 1) := by decide +kernel
theorem dL_law_902 : decode cL_law 902 = .ok (.ifCond .eq 5, 3) := by decide +kernel
theorem dL_law_905 : decode cL_law 905 = .ok (.iconst 0, 1) := by decide +kernel
theorem dL_law_906 : decode cL_law 906 = .ok (.ireturn, 1) := by decide +kernel
theorem dL_law_907 : decode cL_law 907 = .ok (.goto 70, 3) := by decide +kernel
theorem dL_law_910 : decode cL_law 910 = .ok (.aload_n 1, 1) := by decide +kernel
theorem dL_law_911 : decode cL_law 911 = .ok (.aload_n 0, 1) := by decide +kernel
theorem dL_law_912 : decode cL_law 912 = .ok (.iload 4, 2) := by decide +kernel
theorem dL_law_914 : decode cL_law 914 = .ok (.iconst 1, 1) := by decide +kernel
theorem dL_law_915 : decode cL_law 915 = .ok (.iadd, 1) := by decide +kernel
theorem dL_law_916 : decode cL_law 916 = .ok (.iaload, 1) := by decide +kernel
theorem dL_law_917 : decode cL_law 917 = .ok (.aload_n 0, 1) := by decide +kernel
theorem dL_law_918 : decode cL_law 918 = .ok (.iload 4, 2) := by decide +kernel
theorem dL_law_920 : decode cL_law 920 = .ok (.iconst 2, 1) := by decide +kernel
theorem dL_law_921 : decode cL_law 921 = .ok (.iadd, 1) := by decide +kernel
theorem dL_law_922 : decode cL_law 922 = .ok (.iaload, 1) := by decide +kernel
theorem dL_law_923 : decode cL_law 923 = .ok (.aload_n 3, 1) := by decide +kernel
theorem dL_law_924 : decode cL_law 924 = .ok (.invokestatic 134, 3) := by decide +kernel
theorem dL_law_927 : decode cL_law 927 = .ok (.istore 5, 2) := by decide +kernel
theorem dL_law_929 : decode cL_law 929 = .ok (.aload_n 2, 1) := by decide +kernel
theorem dL_law_930 : decode cL_law 930 = .ok (.aload_n 0, 1) := by decide +kernel
theorem dL_law_931 : decode cL_law 931 = .ok (.iload 4, 2) := by decide +kernel
theorem dL_law_933 : decode cL_law 933 = .ok (.iconst 1, 1) := by decide +kernel
theorem dL_law_934 : decode cL_law 934 = .ok (.iadd, 1) := by decide +kernel
theorem dL_law_935 : decode cL_law 935 = .ok (.iaload, 1) := by decide +kernel
theorem dL_law_936 : decode cL_law 936 = .ok (.aload_n 0, 1) := by decide +kernel
theorem dL_law_937 : decode cL_law 937 = .ok (.iload 4, 2) := by decide +kernel
theorem dL_law_939 : decode cL_law 939 = .ok (.iconst 2, 1) := by decide +kernel
theorem dL_law_940 : decode cL_law 940 = .ok (.iadd, 1) := by decide +kernel
theorem dL_law_941 : decode cL_law 941 = .ok (.iaload, 1) := by decide +kernel
theorem dL_law_942 : decode cL_law 942 = .ok (.invokevirtual 136, 3) := by decide +kernel
theorem dL_law_945 : decode cL_law 945 = .ok (.lstore 6, 2) := by decide +kernel
theorem dL_law_947 : decode cL_law 947 = .ok (.aload_n 2, 1) := by decide +kernel
theorem dL_law_948 : decode cL_law 948 = .ok (.invokevirtual 76, 3) := by decide +kernel
theorem dL_law_951 : decode cL_law 951 = .ok (.iload 5, 2) := by decide +kernel
theorem dL_law_953 : decode cL_law 953 = .ok (.if_icmp .eq 5, 3) := by decide +kernel
theorem dL_law_956 : decode cL_law 956 = .ok (.iconst 0, 1) := by decide +kernel
theorem dL_law_957 : decode cL_law 957 = .ok (.ireturn, 1) := by decide +kernel
theorem dL_law_958 : decode cL_law 958 = .ok (.iload 5, 2) := by decide +kernel
theorem dL_law_960 : decode cL_law 960 = .ok (.ifCond .ne 14, 3) := by decide +kernel
theorem dL_law_963 : decode cL_law 963 = .ok (.aload_n 3, 1) := by decide +kernel
theorem dL_law_964 : decode cL_law 964 = .ok (.iconst 0, 1) := by decide +kernel
theorem dL_law_965 : decode cL_law 965 = .ok (.laload, 1) := by decide +kernel
theorem dL_law_966 : decode cL_law 966 = .ok (.lload 6, 2) := by decide +kernel
theorem dL_law_968 : decode cL_law 968 = .ok (.lcmp, 1) := by decide +kernel
theorem dL_law_969 : decode cL_law 969 = .ok (.ifCond .eq 5, 3) := by decide +kernel
theorem dL_law_972 : decode cL_law 972 = .ok (.iconst 0, 1) := by decide +kernel
theorem dL_law_973 : decode cL_law 973 = .ok (.ireturn, 1) := by decide +kernel
theorem dL_law_974 : decode cL_law 974 = .ok (.goto 3, 3) := by decide +kernel
theorem dL_law_977 : decode cL_law 977 = .ok (.iinc 4 5, 3) := by decide +kernel
theorem dL_law_980 : decode cL_law 980 = .ok (.goto (-957), 3) := by decide +kernel
theorem dL_law_983 : decode cL_law 983 = .ok (.iconst 1, 1) := by decide +kernel
theorem dL_law_984 : decode cL_law 984 = .ok (.ireturn, 1) := by decide +kernel
abbrev vwCl : List vw_C := [(RX0, TX0, 5), (RX1, TX1, 4), (RX2, TX2, 5)]
/-- the objects of SnapshotShelves$Row, kind 0: what each holds, by its address -/
structure wK_O_Row where
  f_keys : Nat → Option Nat
  f_times : Nat → Option Nat
  f_values : Nat → Option Nat
  f_erasures : Nat → Option Nat
  f_size : Nat → Int32
/-- the objects of SnapshotShelves$Transaction, kind 1: what each holds, by its address -/
structure wK_O_Transaction where
  f_writes : Nat → Option Nat
  f_isLive : Nat → Int32
  f_number : Nat → Int32
  f_start : Nat → Int32
/-- the objects of SnapshotShelves, kind 2: what each holds, by its address -/
structure wK_O_SnapshotShelves where
  f_shelf : Nat → Option Nat
  f_slots : Nat → Option Nat
  f_now : Nat → Int32
  f_lastVacuum : Nat → Int32
  f_begun : Nat → Int32
/-- the arrays of kind 3: what each holds, by its address -/
structure wK_R_I where
  len : Nat → Nat
  row : Nat → Nat → Int32
/-- the arrays of kind 4: what each holds, by its address -/
structure wK_R_J where
  len : Nat → Nat
  row : Nat → Nat → Int64
/-- the arrays of kind 5: what each holds, by its address -/
structure wK_R_Z where
  len : Nat → Nat
  row : Nat → Nat → Int32
/-- the arrays of kind 6: what each holds, by its address -/
structure wK_R_Transaction where
  len : Nat → Nat
  row : Nat → Nat → Option Nat
/-- the pool: the addresses, the kind of each, and the kinds -/
structure wPS where
  L : List Nat
  K : Nat → Nat
  O_Row : wK_O_Row
  O_Transaction : wK_O_Transaction
  O_SnapshotShelves : wK_O_SnapshotShelves
  R_I : wK_R_I
  R_J : wK_R_J
  R_Z : wK_R_Z
  R_Transaction : wK_R_Transaction
/-- the empty pool -/
abbrev wP0 : wPS := { L := [], K := (fun _ => 0), O_Row := { f_keys := (fun _ => none), f_times := (fun _ => none), f_values := (fun _ => none), f_erasures := (fun _ => none), f_size := (fun _ => 0) }, O_Transaction := { f_writes := (fun _ => none), f_isLive := (fun _ => 0), f_number := (fun _ => 0), f_start := (fun _ => 0) }, O_SnapshotShelves := { f_shelf := (fun _ => none), f_slots := (fun _ => none), f_now := (fun _ => 0), f_lastVacuum := (fun _ => 0), f_begun := (fun _ => 0) }, R_I := { len := (fun _ => 0), row := (fun _ _ => 0) }, R_J := { len := (fun _ => 0), row := (fun _ _ => 0) }, R_Z := { len := (fun _ => 0), row := (fun _ _ => 0) }, R_Transaction := { len := (fun _ => 0), row := (fun _ _ => none) } }
/-- the pool's rows by their kinds -/
abbrev wPF (cyI : ClassId) (cyJ : ClassId) (cyZ : ClassId) (cyO749c2 : ClassId) (S : wPS) : Nat → va_E := fun a => if S.K a = 0 then .inr (0, [va_rf (S.O_Row.f_keys a), va_rf (S.O_Row.f_times a), va_rf (S.O_Row.f_values a), va_rf (S.O_Row.f_erasures a), .int (S.O_Row.f_size a)]) else if S.K a = 1 then .inr (1, [va_rf (S.O_Transaction.f_writes a), .int (S.O_Transaction.f_isLive a), .int (S.O_Transaction.f_number a), .int (S.O_Transaction.f_start a)]) else if S.K a = 2 then .inr (2, [va_rf (S.O_SnapshotShelves.f_shelf a), va_rf (S.O_SnapshotShelves.f_slots a), .int (S.O_SnapshotShelves.f_now a), .int (S.O_SnapshotShelves.f_lastVacuum a), .int (S.O_SnapshotShelves.f_begun a)]) else if S.K a = 3 then .inl (cyI, S.R_I.len a, .inl (S.R_I.row a)) else if S.K a = 4 then .inl (cyJ, S.R_J.len a, .inr (.inl (S.R_J.row a))) else if S.K a = 5 then .inl (cyZ, S.R_Z.len a, .inl (S.R_Z.row a)) else .inl (cyO749c2, S.R_Transaction.len a, .inr (.inr (.inr (.inr (S.R_Transaction.row a)))))
theorem wAt_O_Row (cyI : ClassId) (cyJ : ClassId) (cyZ : ClassId) (cyO749c2 : ClassId) (S : wPS) {a : Nat} (h : S.K a = 0) : wPF cyI cyJ cyZ cyO749c2 S a = .inr (0, [va_rf (S.O_Row.f_keys a), va_rf (S.O_Row.f_times a), va_rf (S.O_Row.f_values a), va_rf (S.O_Row.f_erasures a), .int (S.O_Row.f_size a)]) := by simp [wPF, h]
theorem wGt_O_Row (cyI : ClassId) (cyJ : ClassId) (cyZ : ClassId) (cyO749c2 : ClassId) (X : va_W) (S : wPS) {a : Nat} (hL : a ∈ S.L) (h : S.K a = 0) : ∃ k : Nat, (X ++ va_pl S.L (wPF cyI cyJ cyZ cyO749c2 S))[k]? = some (a, wPF cyI cyJ cyZ cyO749c2 S a) ∧ (X ++ va_pl S.L (wPF cyI cyJ cyZ cyO749c2 S))[k]? = some (a, .inr (0, [va_rf (S.O_Row.f_keys a), va_rf (S.O_Row.f_times a), va_rf (S.O_Row.f_values a), va_rf (S.O_Row.f_erasures a), .int (S.O_Row.f_size a)])) := by
  obtain ⟨k, hk⟩ := va_pl_get (X := X) (f := wPF cyI cyJ cyZ cyO749c2 S) hL
  exact ⟨k, hk, hk.trans (congrArg (fun e => some (a, e)) (wAt_O_Row cyI cyJ cyZ cyO749c2 S h))⟩
theorem wSt_O_Row_f_keys (cyI : ClassId) (cyJ : ClassId) (cyZ : ClassId) (cyO749c2 : ClassId) (S : wPS) {a : Nat} (h : S.K a = 0) (v : Option Nat) (b : Nat) : va_up (wPF cyI cyJ cyZ cyO749c2 S) a (.inr (0, [va_rf v, va_rf (S.O_Row.f_times a), va_rf (S.O_Row.f_values a), va_rf (S.O_Row.f_erasures a), .int (S.O_Row.f_size a)])) b = wPF cyI cyJ cyZ cyO749c2 { S with O_Row := { S.O_Row with f_keys := va_up S.O_Row.f_keys a v } } b := by by_cases hb : b = a <;> first | (simp only [wPF, va_up_ne _ _ hb]; done) | (simp only [wPF, va_up, if_neg hb]; done) | simp [wPF, va_re, va_up, va_rf, hb, h]
theorem wPu_O_Row_f_keys (cyI : ClassId) (cyJ : ClassId) (cyZ : ClassId) (cyO749c2 : ClassId) (X : va_W) (S : wPS) {A : Nat → Prop} {a k : Nat} (hD : va_D A (X ++ va_pl S.L (wPF cyI cyJ cyZ cyO749c2 S))) (hL : a ∈ S.L) (h : S.K a = 0) (hk : (X ++ va_pl S.L (wPF cyI cyJ cyZ cyO749c2 S))[k]? = some (a, wPF cyI cyJ cyZ cyO749c2 S a)) (v : Option Nat) : (X ++ va_pl S.L (wPF cyI cyJ cyZ cyO749c2 S)).set k (a, .inr (0, [va_rf v, va_rf (S.O_Row.f_times a), va_rf (S.O_Row.f_values a), va_rf (S.O_Row.f_erasures a), .int (S.O_Row.f_size a)])) = X ++ va_pl S.L (wPF cyI cyJ cyZ cyO749c2 { S with O_Row := { S.O_Row with f_keys := va_up S.O_Row.f_keys a v } }) := by
  rw [va_pl_set hD hL hk]
  exact congrArg (fun l => X ++ l) (va_pl_congr (wSt_O_Row_f_keys cyI cyJ cyZ cyO749c2 S h v))
theorem wSt_O_Row_f_times (cyI : ClassId) (cyJ : ClassId) (cyZ : ClassId) (cyO749c2 : ClassId) (S : wPS) {a : Nat} (h : S.K a = 0) (v : Option Nat) (b : Nat) : va_up (wPF cyI cyJ cyZ cyO749c2 S) a (.inr (0, [va_rf (S.O_Row.f_keys a), va_rf v, va_rf (S.O_Row.f_values a), va_rf (S.O_Row.f_erasures a), .int (S.O_Row.f_size a)])) b = wPF cyI cyJ cyZ cyO749c2 { S with O_Row := { S.O_Row with f_times := va_up S.O_Row.f_times a v } } b := by by_cases hb : b = a <;> first | (simp only [wPF, va_up_ne _ _ hb]; done) | (simp only [wPF, va_up, if_neg hb]; done) | simp [wPF, va_re, va_up, va_rf, hb, h]
theorem wPu_O_Row_f_times (cyI : ClassId) (cyJ : ClassId) (cyZ : ClassId) (cyO749c2 : ClassId) (X : va_W) (S : wPS) {A : Nat → Prop} {a k : Nat} (hD : va_D A (X ++ va_pl S.L (wPF cyI cyJ cyZ cyO749c2 S))) (hL : a ∈ S.L) (h : S.K a = 0) (hk : (X ++ va_pl S.L (wPF cyI cyJ cyZ cyO749c2 S))[k]? = some (a, wPF cyI cyJ cyZ cyO749c2 S a)) (v : Option Nat) : (X ++ va_pl S.L (wPF cyI cyJ cyZ cyO749c2 S)).set k (a, .inr (0, [va_rf (S.O_Row.f_keys a), va_rf v, va_rf (S.O_Row.f_values a), va_rf (S.O_Row.f_erasures a), .int (S.O_Row.f_size a)])) = X ++ va_pl S.L (wPF cyI cyJ cyZ cyO749c2 { S with O_Row := { S.O_Row with f_times := va_up S.O_Row.f_times a v } }) := by
  rw [va_pl_set hD hL hk]
  exact congrArg (fun l => X ++ l) (va_pl_congr (wSt_O_Row_f_times cyI cyJ cyZ cyO749c2 S h v))
theorem wSt_O_Row_f_values (cyI : ClassId) (cyJ : ClassId) (cyZ : ClassId) (cyO749c2 : ClassId) (S : wPS) {a : Nat} (h : S.K a = 0) (v : Option Nat) (b : Nat) : va_up (wPF cyI cyJ cyZ cyO749c2 S) a (.inr (0, [va_rf (S.O_Row.f_keys a), va_rf (S.O_Row.f_times a), va_rf v, va_rf (S.O_Row.f_erasures a), .int (S.O_Row.f_size a)])) b = wPF cyI cyJ cyZ cyO749c2 { S with O_Row := { S.O_Row with f_values := va_up S.O_Row.f_values a v } } b := by by_cases hb : b = a <;> first | (simp only [wPF, va_up_ne _ _ hb]; done) | (simp only [wPF, va_up, if_neg hb]; done) | simp [wPF, va_re, va_up, va_rf, hb, h]
theorem wPu_O_Row_f_values (cyI : ClassId) (cyJ : ClassId) (cyZ : ClassId) (cyO749c2 : ClassId) (X : va_W) (S : wPS) {A : Nat → Prop} {a k : Nat} (hD : va_D A (X ++ va_pl S.L (wPF cyI cyJ cyZ cyO749c2 S))) (hL : a ∈ S.L) (h : S.K a = 0) (hk : (X ++ va_pl S.L (wPF cyI cyJ cyZ cyO749c2 S))[k]? = some (a, wPF cyI cyJ cyZ cyO749c2 S a)) (v : Option Nat) : (X ++ va_pl S.L (wPF cyI cyJ cyZ cyO749c2 S)).set k (a, .inr (0, [va_rf (S.O_Row.f_keys a), va_rf (S.O_Row.f_times a), va_rf v, va_rf (S.O_Row.f_erasures a), .int (S.O_Row.f_size a)])) = X ++ va_pl S.L (wPF cyI cyJ cyZ cyO749c2 { S with O_Row := { S.O_Row with f_values := va_up S.O_Row.f_values a v } }) := by
  rw [va_pl_set hD hL hk]
  exact congrArg (fun l => X ++ l) (va_pl_congr (wSt_O_Row_f_values cyI cyJ cyZ cyO749c2 S h v))
theorem wSt_O_Row_f_erasures (cyI : ClassId) (cyJ : ClassId) (cyZ : ClassId) (cyO749c2 : ClassId) (S : wPS) {a : Nat} (h : S.K a = 0) (v : Option Nat) (b : Nat) : va_up (wPF cyI cyJ cyZ cyO749c2 S) a (.inr (0, [va_rf (S.O_Row.f_keys a), va_rf (S.O_Row.f_times a), va_rf (S.O_Row.f_values a), va_rf v, .int (S.O_Row.f_size a)])) b = wPF cyI cyJ cyZ cyO749c2 { S with O_Row := { S.O_Row with f_erasures := va_up S.O_Row.f_erasures a v } } b := by by_cases hb : b = a <;> first | (simp only [wPF, va_up_ne _ _ hb]; done) | (simp only [wPF, va_up, if_neg hb]; done) | simp [wPF, va_re, va_up, va_rf, hb, h]
theorem wPu_O_Row_f_erasures (cyI : ClassId) (cyJ : ClassId) (cyZ : ClassId) (cyO749c2 : ClassId) (X : va_W) (S : wPS) {A : Nat → Prop} {a k : Nat} (hD : va_D A (X ++ va_pl S.L (wPF cyI cyJ cyZ cyO749c2 S))) (hL : a ∈ S.L) (h : S.K a = 0) (hk : (X ++ va_pl S.L (wPF cyI cyJ cyZ cyO749c2 S))[k]? = some (a, wPF cyI cyJ cyZ cyO749c2 S a)) (v : Option Nat) : (X ++ va_pl S.L (wPF cyI cyJ cyZ cyO749c2 S)).set k (a, .inr (0, [va_rf (S.O_Row.f_keys a), va_rf (S.O_Row.f_times a), va_rf (S.O_Row.f_values a), va_rf v, .int (S.O_Row.f_size a)])) = X ++ va_pl S.L (wPF cyI cyJ cyZ cyO749c2 { S with O_Row := { S.O_Row with f_erasures := va_up S.O_Row.f_erasures a v } }) := by
  rw [va_pl_set hD hL hk]
  exact congrArg (fun l => X ++ l) (va_pl_congr (wSt_O_Row_f_erasures cyI cyJ cyZ cyO749c2 S h v))
theorem wSt_O_Row_f_size (cyI : ClassId) (cyJ : ClassId) (cyZ : ClassId) (cyO749c2 : ClassId) (S : wPS) {a : Nat} (h : S.K a = 0) (v : Int32) (b : Nat) : va_up (wPF cyI cyJ cyZ cyO749c2 S) a (.inr (0, [va_rf (S.O_Row.f_keys a), va_rf (S.O_Row.f_times a), va_rf (S.O_Row.f_values a), va_rf (S.O_Row.f_erasures a), .int v])) b = wPF cyI cyJ cyZ cyO749c2 { S with O_Row := { S.O_Row with f_size := va_up S.O_Row.f_size a v } } b := by by_cases hb : b = a <;> first | (simp only [wPF, va_up_ne _ _ hb]; done) | (simp only [wPF, va_up, if_neg hb]; done) | simp [wPF, va_re, va_up, va_rf, hb, h]
theorem wPu_O_Row_f_size (cyI : ClassId) (cyJ : ClassId) (cyZ : ClassId) (cyO749c2 : ClassId) (X : va_W) (S : wPS) {A : Nat → Prop} {a k : Nat} (hD : va_D A (X ++ va_pl S.L (wPF cyI cyJ cyZ cyO749c2 S))) (hL : a ∈ S.L) (h : S.K a = 0) (hk : (X ++ va_pl S.L (wPF cyI cyJ cyZ cyO749c2 S))[k]? = some (a, wPF cyI cyJ cyZ cyO749c2 S a)) (v : Int32) : (X ++ va_pl S.L (wPF cyI cyJ cyZ cyO749c2 S)).set k (a, .inr (0, [va_rf (S.O_Row.f_keys a), va_rf (S.O_Row.f_times a), va_rf (S.O_Row.f_values a), va_rf (S.O_Row.f_erasures a), .int v])) = X ++ va_pl S.L (wPF cyI cyJ cyZ cyO749c2 { S with O_Row := { S.O_Row with f_size := va_up S.O_Row.f_size a v } }) := by
  rw [va_pl_set hD hL hk]
  exact congrArg (fun l => X ++ l) (va_pl_congr (wSt_O_Row_f_size cyI cyJ cyZ cyO749c2 S h v))
theorem wNw_O_Row (cyI : ClassId) (cyJ : ClassId) (cyZ : ClassId) (cyO749c2 : ClassId) (S : wPS) (a b : Nat) : va_up (wPF cyI cyJ cyZ cyO749c2 S) a (.inr (0, [.null, .null, .null, .null, .int 0])) b = wPF cyI cyJ cyZ cyO749c2 { S with L := S.L ++ [a], K := va_up S.K a 0, O_Row := { f_keys := va_up S.O_Row.f_keys a none, f_times := va_up S.O_Row.f_times a none, f_values := va_up S.O_Row.f_values a none, f_erasures := va_up S.O_Row.f_erasures a none, f_size := va_up S.O_Row.f_size a 0 } } b := by by_cases hb : b = a <;> first | (simp only [wPF, va_up_ne _ _ hb]; done) | (simp only [wPF, va_up, if_neg hb]; done) | simp [wPF, va_re, va_up, va_rf, hb]
theorem wPn_O_Row (cyI : ClassId) (cyJ : ClassId) (cyZ : ClassId) (cyO749c2 : ClassId) (X : va_W) (S : wPS) {a : Nat} (ha : a ∉ S.L) : (X ++ va_pl S.L (wPF cyI cyJ cyZ cyO749c2 S)) ++ [(a, .inr (0, [.null, .null, .null, .null, .int 0]))] = X ++ va_pl (S.L ++ [a]) (wPF cyI cyJ cyZ cyO749c2 { S with L := S.L ++ [a], K := va_up S.K a 0, O_Row := { f_keys := va_up S.O_Row.f_keys a none, f_times := va_up S.O_Row.f_times a none, f_values := va_up S.O_Row.f_values a none, f_erasures := va_up S.O_Row.f_erasures a none, f_size := va_up S.O_Row.f_size a 0 } }) := by
  rw [List.append_assoc, va_pl_push ha]
  exact congrArg (fun l => X ++ l) (va_pl_congr (wNw_O_Row cyI cyJ cyZ cyO749c2 S a))
theorem wAt_O_Transaction (cyI : ClassId) (cyJ : ClassId) (cyZ : ClassId) (cyO749c2 : ClassId) (S : wPS) {a : Nat} (h : S.K a = 1) : wPF cyI cyJ cyZ cyO749c2 S a = .inr (1, [va_rf (S.O_Transaction.f_writes a), .int (S.O_Transaction.f_isLive a), .int (S.O_Transaction.f_number a), .int (S.O_Transaction.f_start a)]) := by simp [wPF, h]
theorem wGt_O_Transaction (cyI : ClassId) (cyJ : ClassId) (cyZ : ClassId) (cyO749c2 : ClassId) (X : va_W) (S : wPS) {a : Nat} (hL : a ∈ S.L) (h : S.K a = 1) : ∃ k : Nat, (X ++ va_pl S.L (wPF cyI cyJ cyZ cyO749c2 S))[k]? = some (a, wPF cyI cyJ cyZ cyO749c2 S a) ∧ (X ++ va_pl S.L (wPF cyI cyJ cyZ cyO749c2 S))[k]? = some (a, .inr (1, [va_rf (S.O_Transaction.f_writes a), .int (S.O_Transaction.f_isLive a), .int (S.O_Transaction.f_number a), .int (S.O_Transaction.f_start a)])) := by
  obtain ⟨k, hk⟩ := va_pl_get (X := X) (f := wPF cyI cyJ cyZ cyO749c2 S) hL
  exact ⟨k, hk, hk.trans (congrArg (fun e => some (a, e)) (wAt_O_Transaction cyI cyJ cyZ cyO749c2 S h))⟩
theorem wSt_O_Transaction_f_writes (cyI : ClassId) (cyJ : ClassId) (cyZ : ClassId) (cyO749c2 : ClassId) (S : wPS) {a : Nat} (h : S.K a = 1) (v : Option Nat) (b : Nat) : va_up (wPF cyI cyJ cyZ cyO749c2 S) a (.inr (1, [va_rf v, .int (S.O_Transaction.f_isLive a), .int (S.O_Transaction.f_number a), .int (S.O_Transaction.f_start a)])) b = wPF cyI cyJ cyZ cyO749c2 { S with O_Transaction := { S.O_Transaction with f_writes := va_up S.O_Transaction.f_writes a v } } b := by by_cases hb : b = a <;> first | (simp only [wPF, va_up_ne _ _ hb]; done) | (simp only [wPF, va_up, if_neg hb]; done) | simp [wPF, va_re, va_up, va_rf, hb, h]
theorem wPu_O_Transaction_f_writes (cyI : ClassId) (cyJ : ClassId) (cyZ : ClassId) (cyO749c2 : ClassId) (X : va_W) (S : wPS) {A : Nat → Prop} {a k : Nat} (hD : va_D A (X ++ va_pl S.L (wPF cyI cyJ cyZ cyO749c2 S))) (hL : a ∈ S.L) (h : S.K a = 1) (hk : (X ++ va_pl S.L (wPF cyI cyJ cyZ cyO749c2 S))[k]? = some (a, wPF cyI cyJ cyZ cyO749c2 S a)) (v : Option Nat) : (X ++ va_pl S.L (wPF cyI cyJ cyZ cyO749c2 S)).set k (a, .inr (1, [va_rf v, .int (S.O_Transaction.f_isLive a), .int (S.O_Transaction.f_number a), .int (S.O_Transaction.f_start a)])) = X ++ va_pl S.L (wPF cyI cyJ cyZ cyO749c2 { S with O_Transaction := { S.O_Transaction with f_writes := va_up S.O_Transaction.f_writes a v } }) := by
  rw [va_pl_set hD hL hk]
  exact congrArg (fun l => X ++ l) (va_pl_congr (wSt_O_Transaction_f_writes cyI cyJ cyZ cyO749c2 S h v))
theorem wSt_O_Transaction_f_isLive (cyI : ClassId) (cyJ : ClassId) (cyZ : ClassId) (cyO749c2 : ClassId) (S : wPS) {a : Nat} (h : S.K a = 1) (v : Int32) (b : Nat) : va_up (wPF cyI cyJ cyZ cyO749c2 S) a (.inr (1, [va_rf (S.O_Transaction.f_writes a), .int v, .int (S.O_Transaction.f_number a), .int (S.O_Transaction.f_start a)])) b = wPF cyI cyJ cyZ cyO749c2 { S with O_Transaction := { S.O_Transaction with f_isLive := va_up S.O_Transaction.f_isLive a v } } b := by by_cases hb : b = a <;> first | (simp only [wPF, va_up_ne _ _ hb]; done) | (simp only [wPF, va_up, if_neg hb]; done) | simp [wPF, va_re, va_up, va_rf, hb, h]
theorem wPu_O_Transaction_f_isLive (cyI : ClassId) (cyJ : ClassId) (cyZ : ClassId) (cyO749c2 : ClassId) (X : va_W) (S : wPS) {A : Nat → Prop} {a k : Nat} (hD : va_D A (X ++ va_pl S.L (wPF cyI cyJ cyZ cyO749c2 S))) (hL : a ∈ S.L) (h : S.K a = 1) (hk : (X ++ va_pl S.L (wPF cyI cyJ cyZ cyO749c2 S))[k]? = some (a, wPF cyI cyJ cyZ cyO749c2 S a)) (v : Int32) : (X ++ va_pl S.L (wPF cyI cyJ cyZ cyO749c2 S)).set k (a, .inr (1, [va_rf (S.O_Transaction.f_writes a), .int v, .int (S.O_Transaction.f_number a), .int (S.O_Transaction.f_start a)])) = X ++ va_pl S.L (wPF cyI cyJ cyZ cyO749c2 { S with O_Transaction := { S.O_Transaction with f_isLive := va_up S.O_Transaction.f_isLive a v } }) := by
  rw [va_pl_set hD hL hk]
  exact congrArg (fun l => X ++ l) (va_pl_congr (wSt_O_Transaction_f_isLive cyI cyJ cyZ cyO749c2 S h v))
theorem wSt_O_Transaction_f_number (cyI : ClassId) (cyJ : ClassId) (cyZ : ClassId) (cyO749c2 : ClassId) (S : wPS) {a : Nat} (h : S.K a = 1) (v : Int32) (b : Nat) : va_up (wPF cyI cyJ cyZ cyO749c2 S) a (.inr (1, [va_rf (S.O_Transaction.f_writes a), .int (S.O_Transaction.f_isLive a), .int v, .int (S.O_Transaction.f_start a)])) b = wPF cyI cyJ cyZ cyO749c2 { S with O_Transaction := { S.O_Transaction with f_number := va_up S.O_Transaction.f_number a v } } b := by by_cases hb : b = a <;> first | (simp only [wPF, va_up_ne _ _ hb]; done) | (simp only [wPF, va_up, if_neg hb]; done) | simp [wPF, va_re, va_up, va_rf, hb, h]
theorem wPu_O_Transaction_f_number (cyI : ClassId) (cyJ : ClassId) (cyZ : ClassId) (cyO749c2 : ClassId) (X : va_W) (S : wPS) {A : Nat → Prop} {a k : Nat} (hD : va_D A (X ++ va_pl S.L (wPF cyI cyJ cyZ cyO749c2 S))) (hL : a ∈ S.L) (h : S.K a = 1) (hk : (X ++ va_pl S.L (wPF cyI cyJ cyZ cyO749c2 S))[k]? = some (a, wPF cyI cyJ cyZ cyO749c2 S a)) (v : Int32) : (X ++ va_pl S.L (wPF cyI cyJ cyZ cyO749c2 S)).set k (a, .inr (1, [va_rf (S.O_Transaction.f_writes a), .int (S.O_Transaction.f_isLive a), .int v, .int (S.O_Transaction.f_start a)])) = X ++ va_pl S.L (wPF cyI cyJ cyZ cyO749c2 { S with O_Transaction := { S.O_Transaction with f_number := va_up S.O_Transaction.f_number a v } }) := by
  rw [va_pl_set hD hL hk]
  exact congrArg (fun l => X ++ l) (va_pl_congr (wSt_O_Transaction_f_number cyI cyJ cyZ cyO749c2 S h v))
theorem wSt_O_Transaction_f_start (cyI : ClassId) (cyJ : ClassId) (cyZ : ClassId) (cyO749c2 : ClassId) (S : wPS) {a : Nat} (h : S.K a = 1) (v : Int32) (b : Nat) : va_up (wPF cyI cyJ cyZ cyO749c2 S) a (.inr (1, [va_rf (S.O_Transaction.f_writes a), .int (S.O_Transaction.f_isLive a), .int (S.O_Transaction.f_number a), .int v])) b = wPF cyI cyJ cyZ cyO749c2 { S with O_Transaction := { S.O_Transaction with f_start := va_up S.O_Transaction.f_start a v } } b := by by_cases hb : b = a <;> first | (simp only [wPF, va_up_ne _ _ hb]; done) | (simp only [wPF, va_up, if_neg hb]; done) | simp [wPF, va_re, va_up, va_rf, hb, h]
theorem wPu_O_Transaction_f_start (cyI : ClassId) (cyJ : ClassId) (cyZ : ClassId) (cyO749c2 : ClassId) (X : va_W) (S : wPS) {A : Nat → Prop} {a k : Nat} (hD : va_D A (X ++ va_pl S.L (wPF cyI cyJ cyZ cyO749c2 S))) (hL : a ∈ S.L) (h : S.K a = 1) (hk : (X ++ va_pl S.L (wPF cyI cyJ cyZ cyO749c2 S))[k]? = some (a, wPF cyI cyJ cyZ cyO749c2 S a)) (v : Int32) : (X ++ va_pl S.L (wPF cyI cyJ cyZ cyO749c2 S)).set k (a, .inr (1, [va_rf (S.O_Transaction.f_writes a), .int (S.O_Transaction.f_isLive a), .int (S.O_Transaction.f_number a), .int v])) = X ++ va_pl S.L (wPF cyI cyJ cyZ cyO749c2 { S with O_Transaction := { S.O_Transaction with f_start := va_up S.O_Transaction.f_start a v } }) := by
  rw [va_pl_set hD hL hk]
  exact congrArg (fun l => X ++ l) (va_pl_congr (wSt_O_Transaction_f_start cyI cyJ cyZ cyO749c2 S h v))
theorem wNw_O_Transaction (cyI : ClassId) (cyJ : ClassId) (cyZ : ClassId) (cyO749c2 : ClassId) (S : wPS) (a b : Nat) : va_up (wPF cyI cyJ cyZ cyO749c2 S) a (.inr (1, [.null, .int 0, .int 0, .int 0])) b = wPF cyI cyJ cyZ cyO749c2 { S with L := S.L ++ [a], K := va_up S.K a 1, O_Transaction := { f_writes := va_up S.O_Transaction.f_writes a none, f_isLive := va_up S.O_Transaction.f_isLive a 0, f_number := va_up S.O_Transaction.f_number a 0, f_start := va_up S.O_Transaction.f_start a 0 } } b := by by_cases hb : b = a <;> first | (simp only [wPF, va_up_ne _ _ hb]; done) | (simp only [wPF, va_up, if_neg hb]; done) | simp [wPF, va_re, va_up, va_rf, hb]
theorem wPn_O_Transaction (cyI : ClassId) (cyJ : ClassId) (cyZ : ClassId) (cyO749c2 : ClassId) (X : va_W) (S : wPS) {a : Nat} (ha : a ∉ S.L) : (X ++ va_pl S.L (wPF cyI cyJ cyZ cyO749c2 S)) ++ [(a, .inr (1, [.null, .int 0, .int 0, .int 0]))] = X ++ va_pl (S.L ++ [a]) (wPF cyI cyJ cyZ cyO749c2 { S with L := S.L ++ [a], K := va_up S.K a 1, O_Transaction := { f_writes := va_up S.O_Transaction.f_writes a none, f_isLive := va_up S.O_Transaction.f_isLive a 0, f_number := va_up S.O_Transaction.f_number a 0, f_start := va_up S.O_Transaction.f_start a 0 } }) := by
  rw [List.append_assoc, va_pl_push ha]
  exact congrArg (fun l => X ++ l) (va_pl_congr (wNw_O_Transaction cyI cyJ cyZ cyO749c2 S a))
theorem wAt_O_SnapshotShelves (cyI : ClassId) (cyJ : ClassId) (cyZ : ClassId) (cyO749c2 : ClassId) (S : wPS) {a : Nat} (h : S.K a = 2) : wPF cyI cyJ cyZ cyO749c2 S a = .inr (2, [va_rf (S.O_SnapshotShelves.f_shelf a), va_rf (S.O_SnapshotShelves.f_slots a), .int (S.O_SnapshotShelves.f_now a), .int (S.O_SnapshotShelves.f_lastVacuum a), .int (S.O_SnapshotShelves.f_begun a)]) := by simp [wPF, h]
theorem wGt_O_SnapshotShelves (cyI : ClassId) (cyJ : ClassId) (cyZ : ClassId) (cyO749c2 : ClassId) (X : va_W) (S : wPS) {a : Nat} (hL : a ∈ S.L) (h : S.K a = 2) : ∃ k : Nat, (X ++ va_pl S.L (wPF cyI cyJ cyZ cyO749c2 S))[k]? = some (a, wPF cyI cyJ cyZ cyO749c2 S a) ∧ (X ++ va_pl S.L (wPF cyI cyJ cyZ cyO749c2 S))[k]? = some (a, .inr (2, [va_rf (S.O_SnapshotShelves.f_shelf a), va_rf (S.O_SnapshotShelves.f_slots a), .int (S.O_SnapshotShelves.f_now a), .int (S.O_SnapshotShelves.f_lastVacuum a), .int (S.O_SnapshotShelves.f_begun a)])) := by
  obtain ⟨k, hk⟩ := va_pl_get (X := X) (f := wPF cyI cyJ cyZ cyO749c2 S) hL
  exact ⟨k, hk, hk.trans (congrArg (fun e => some (a, e)) (wAt_O_SnapshotShelves cyI cyJ cyZ cyO749c2 S h))⟩
theorem wSt_O_SnapshotShelves_f_shelf (cyI : ClassId) (cyJ : ClassId) (cyZ : ClassId) (cyO749c2 : ClassId) (S : wPS) {a : Nat} (h : S.K a = 2) (v : Option Nat) (b : Nat) : va_up (wPF cyI cyJ cyZ cyO749c2 S) a (.inr (2, [va_rf v, va_rf (S.O_SnapshotShelves.f_slots a), .int (S.O_SnapshotShelves.f_now a), .int (S.O_SnapshotShelves.f_lastVacuum a), .int (S.O_SnapshotShelves.f_begun a)])) b = wPF cyI cyJ cyZ cyO749c2 { S with O_SnapshotShelves := { S.O_SnapshotShelves with f_shelf := va_up S.O_SnapshotShelves.f_shelf a v } } b := by by_cases hb : b = a <;> first | (simp only [wPF, va_up_ne _ _ hb]; done) | (simp only [wPF, va_up, if_neg hb]; done) | simp [wPF, va_re, va_up, va_rf, hb, h]
theorem wPu_O_SnapshotShelves_f_shelf (cyI : ClassId) (cyJ : ClassId) (cyZ : ClassId) (cyO749c2 : ClassId) (X : va_W) (S : wPS) {A : Nat → Prop} {a k : Nat} (hD : va_D A (X ++ va_pl S.L (wPF cyI cyJ cyZ cyO749c2 S))) (hL : a ∈ S.L) (h : S.K a = 2) (hk : (X ++ va_pl S.L (wPF cyI cyJ cyZ cyO749c2 S))[k]? = some (a, wPF cyI cyJ cyZ cyO749c2 S a)) (v : Option Nat) : (X ++ va_pl S.L (wPF cyI cyJ cyZ cyO749c2 S)).set k (a, .inr (2, [va_rf v, va_rf (S.O_SnapshotShelves.f_slots a), .int (S.O_SnapshotShelves.f_now a), .int (S.O_SnapshotShelves.f_lastVacuum a), .int (S.O_SnapshotShelves.f_begun a)])) = X ++ va_pl S.L (wPF cyI cyJ cyZ cyO749c2 { S with O_SnapshotShelves := { S.O_SnapshotShelves with f_shelf := va_up S.O_SnapshotShelves.f_shelf a v } }) := by
  rw [va_pl_set hD hL hk]
  exact congrArg (fun l => X ++ l) (va_pl_congr (wSt_O_SnapshotShelves_f_shelf cyI cyJ cyZ cyO749c2 S h v))
theorem wSt_O_SnapshotShelves_f_slots (cyI : ClassId) (cyJ : ClassId) (cyZ : ClassId) (cyO749c2 : ClassId) (S : wPS) {a : Nat} (h : S.K a = 2) (v : Option Nat) (b : Nat) : va_up (wPF cyI cyJ cyZ cyO749c2 S) a (.inr (2, [va_rf (S.O_SnapshotShelves.f_shelf a), va_rf v, .int (S.O_SnapshotShelves.f_now a), .int (S.O_SnapshotShelves.f_lastVacuum a), .int (S.O_SnapshotShelves.f_begun a)])) b = wPF cyI cyJ cyZ cyO749c2 { S with O_SnapshotShelves := { S.O_SnapshotShelves with f_slots := va_up S.O_SnapshotShelves.f_slots a v } } b := by by_cases hb : b = a <;> first | (simp only [wPF, va_up_ne _ _ hb]; done) | (simp only [wPF, va_up, if_neg hb]; done) | simp [wPF, va_re, va_up, va_rf, hb, h]
theorem wPu_O_SnapshotShelves_f_slots (cyI : ClassId) (cyJ : ClassId) (cyZ : ClassId) (cyO749c2 : ClassId) (X : va_W) (S : wPS) {A : Nat → Prop} {a k : Nat} (hD : va_D A (X ++ va_pl S.L (wPF cyI cyJ cyZ cyO749c2 S))) (hL : a ∈ S.L) (h : S.K a = 2) (hk : (X ++ va_pl S.L (wPF cyI cyJ cyZ cyO749c2 S))[k]? = some (a, wPF cyI cyJ cyZ cyO749c2 S a)) (v : Option Nat) : (X ++ va_pl S.L (wPF cyI cyJ cyZ cyO749c2 S)).set k (a, .inr (2, [va_rf (S.O_SnapshotShelves.f_shelf a), va_rf v, .int (S.O_SnapshotShelves.f_now a), .int (S.O_SnapshotShelves.f_lastVacuum a), .int (S.O_SnapshotShelves.f_begun a)])) = X ++ va_pl S.L (wPF cyI cyJ cyZ cyO749c2 { S with O_SnapshotShelves := { S.O_SnapshotShelves with f_slots := va_up S.O_SnapshotShelves.f_slots a v } }) := by
  rw [va_pl_set hD hL hk]
  exact congrArg (fun l => X ++ l) (va_pl_congr (wSt_O_SnapshotShelves_f_slots cyI cyJ cyZ cyO749c2 S h v))
theorem wSt_O_SnapshotShelves_f_now (cyI : ClassId) (cyJ : ClassId) (cyZ : ClassId) (cyO749c2 : ClassId) (S : wPS) {a : Nat} (h : S.K a = 2) (v : Int32) (b : Nat) : va_up (wPF cyI cyJ cyZ cyO749c2 S) a (.inr (2, [va_rf (S.O_SnapshotShelves.f_shelf a), va_rf (S.O_SnapshotShelves.f_slots a), .int v, .int (S.O_SnapshotShelves.f_lastVacuum a), .int (S.O_SnapshotShelves.f_begun a)])) b = wPF cyI cyJ cyZ cyO749c2 { S with O_SnapshotShelves := { S.O_SnapshotShelves with f_now := va_up S.O_SnapshotShelves.f_now a v } } b := by by_cases hb : b = a <;> first | (simp only [wPF, va_up_ne _ _ hb]; done) | (simp only [wPF, va_up, if_neg hb]; done) | simp [wPF, va_re, va_up, va_rf, hb, h]
theorem wPu_O_SnapshotShelves_f_now (cyI : ClassId) (cyJ : ClassId) (cyZ : ClassId) (cyO749c2 : ClassId) (X : va_W) (S : wPS) {A : Nat → Prop} {a k : Nat} (hD : va_D A (X ++ va_pl S.L (wPF cyI cyJ cyZ cyO749c2 S))) (hL : a ∈ S.L) (h : S.K a = 2) (hk : (X ++ va_pl S.L (wPF cyI cyJ cyZ cyO749c2 S))[k]? = some (a, wPF cyI cyJ cyZ cyO749c2 S a)) (v : Int32) : (X ++ va_pl S.L (wPF cyI cyJ cyZ cyO749c2 S)).set k (a, .inr (2, [va_rf (S.O_SnapshotShelves.f_shelf a), va_rf (S.O_SnapshotShelves.f_slots a), .int v, .int (S.O_SnapshotShelves.f_lastVacuum a), .int (S.O_SnapshotShelves.f_begun a)])) = X ++ va_pl S.L (wPF cyI cyJ cyZ cyO749c2 { S with O_SnapshotShelves := { S.O_SnapshotShelves with f_now := va_up S.O_SnapshotShelves.f_now a v } }) := by
  rw [va_pl_set hD hL hk]
  exact congrArg (fun l => X ++ l) (va_pl_congr (wSt_O_SnapshotShelves_f_now cyI cyJ cyZ cyO749c2 S h v))
theorem wSt_O_SnapshotShelves_f_lastVacuum (cyI : ClassId) (cyJ : ClassId) (cyZ : ClassId) (cyO749c2 : ClassId) (S : wPS) {a : Nat} (h : S.K a = 2) (v : Int32) (b : Nat) : va_up (wPF cyI cyJ cyZ cyO749c2 S) a (.inr (2, [va_rf (S.O_SnapshotShelves.f_shelf a), va_rf (S.O_SnapshotShelves.f_slots a), .int (S.O_SnapshotShelves.f_now a), .int v, .int (S.O_SnapshotShelves.f_begun a)])) b = wPF cyI cyJ cyZ cyO749c2 { S with O_SnapshotShelves := { S.O_SnapshotShelves with f_lastVacuum := va_up S.O_SnapshotShelves.f_lastVacuum a v } } b := by by_cases hb : b = a <;> first | (simp only [wPF, va_up_ne _ _ hb]; done) | (simp only [wPF, va_up, if_neg hb]; done) | simp [wPF, va_re, va_up, va_rf, hb, h]
theorem wPu_O_SnapshotShelves_f_lastVacuum (cyI : ClassId) (cyJ : ClassId) (cyZ : ClassId) (cyO749c2 : ClassId) (X : va_W) (S : wPS) {A : Nat → Prop} {a k : Nat} (hD : va_D A (X ++ va_pl S.L (wPF cyI cyJ cyZ cyO749c2 S))) (hL : a ∈ S.L) (h : S.K a = 2) (hk : (X ++ va_pl S.L (wPF cyI cyJ cyZ cyO749c2 S))[k]? = some (a, wPF cyI cyJ cyZ cyO749c2 S a)) (v : Int32) : (X ++ va_pl S.L (wPF cyI cyJ cyZ cyO749c2 S)).set k (a, .inr (2, [va_rf (S.O_SnapshotShelves.f_shelf a), va_rf (S.O_SnapshotShelves.f_slots a), .int (S.O_SnapshotShelves.f_now a), .int v, .int (S.O_SnapshotShelves.f_begun a)])) = X ++ va_pl S.L (wPF cyI cyJ cyZ cyO749c2 { S with O_SnapshotShelves := { S.O_SnapshotShelves with f_lastVacuum := va_up S.O_SnapshotShelves.f_lastVacuum a v } }) := by
  rw [va_pl_set hD hL hk]
  exact congrArg (fun l => X ++ l) (va_pl_congr (wSt_O_SnapshotShelves_f_lastVacuum cyI cyJ cyZ cyO749c2 S h v))
theorem wSt_O_SnapshotShelves_f_begun (cyI : ClassId) (cyJ : ClassId) (cyZ : ClassId) (cyO749c2 : ClassId) (S : wPS) {a : Nat} (h : S.K a = 2) (v : Int32) (b : Nat) : va_up (wPF cyI cyJ cyZ cyO749c2 S) a (.inr (2, [va_rf (S.O_SnapshotShelves.f_shelf a), va_rf (S.O_SnapshotShelves.f_slots a), .int (S.O_SnapshotShelves.f_now a), .int (S.O_SnapshotShelves.f_lastVacuum a), .int v])) b = wPF cyI cyJ cyZ cyO749c2 { S with O_SnapshotShelves := { S.O_SnapshotShelves with f_begun := va_up S.O_SnapshotShelves.f_begun a v } } b := by by_cases hb : b = a <;> first | (simp only [wPF, va_up_ne _ _ hb]; done) | (simp only [wPF, va_up, if_neg hb]; done) | simp [wPF, va_re, va_up, va_rf, hb, h]
theorem wPu_O_SnapshotShelves_f_begun (cyI : ClassId) (cyJ : ClassId) (cyZ : ClassId) (cyO749c2 : ClassId) (X : va_W) (S : wPS) {A : Nat → Prop} {a k : Nat} (hD : va_D A (X ++ va_pl S.L (wPF cyI cyJ cyZ cyO749c2 S))) (hL : a ∈ S.L) (h : S.K a = 2) (hk : (X ++ va_pl S.L (wPF cyI cyJ cyZ cyO749c2 S))[k]? = some (a, wPF cyI cyJ cyZ cyO749c2 S a)) (v : Int32) : (X ++ va_pl S.L (wPF cyI cyJ cyZ cyO749c2 S)).set k (a, .inr (2, [va_rf (S.O_SnapshotShelves.f_shelf a), va_rf (S.O_SnapshotShelves.f_slots a), .int (S.O_SnapshotShelves.f_now a), .int (S.O_SnapshotShelves.f_lastVacuum a), .int v])) = X ++ va_pl S.L (wPF cyI cyJ cyZ cyO749c2 { S with O_SnapshotShelves := { S.O_SnapshotShelves with f_begun := va_up S.O_SnapshotShelves.f_begun a v } }) := by
  rw [va_pl_set hD hL hk]
  exact congrArg (fun l => X ++ l) (va_pl_congr (wSt_O_SnapshotShelves_f_begun cyI cyJ cyZ cyO749c2 S h v))
theorem wNw_O_SnapshotShelves (cyI : ClassId) (cyJ : ClassId) (cyZ : ClassId) (cyO749c2 : ClassId) (S : wPS) (a b : Nat) : va_up (wPF cyI cyJ cyZ cyO749c2 S) a (.inr (2, [.null, .null, .int 0, .int 0, .int 0])) b = wPF cyI cyJ cyZ cyO749c2 { S with L := S.L ++ [a], K := va_up S.K a 2, O_SnapshotShelves := { f_shelf := va_up S.O_SnapshotShelves.f_shelf a none, f_slots := va_up S.O_SnapshotShelves.f_slots a none, f_now := va_up S.O_SnapshotShelves.f_now a 0, f_lastVacuum := va_up S.O_SnapshotShelves.f_lastVacuum a 0, f_begun := va_up S.O_SnapshotShelves.f_begun a 0 } } b := by by_cases hb : b = a <;> first | (simp only [wPF, va_up_ne _ _ hb]; done) | (simp only [wPF, va_up, if_neg hb]; done) | simp [wPF, va_re, va_up, va_rf, hb]
theorem wPn_O_SnapshotShelves (cyI : ClassId) (cyJ : ClassId) (cyZ : ClassId) (cyO749c2 : ClassId) (X : va_W) (S : wPS) {a : Nat} (ha : a ∉ S.L) : (X ++ va_pl S.L (wPF cyI cyJ cyZ cyO749c2 S)) ++ [(a, .inr (2, [.null, .null, .int 0, .int 0, .int 0]))] = X ++ va_pl (S.L ++ [a]) (wPF cyI cyJ cyZ cyO749c2 { S with L := S.L ++ [a], K := va_up S.K a 2, O_SnapshotShelves := { f_shelf := va_up S.O_SnapshotShelves.f_shelf a none, f_slots := va_up S.O_SnapshotShelves.f_slots a none, f_now := va_up S.O_SnapshotShelves.f_now a 0, f_lastVacuum := va_up S.O_SnapshotShelves.f_lastVacuum a 0, f_begun := va_up S.O_SnapshotShelves.f_begun a 0 } }) := by
  rw [List.append_assoc, va_pl_push ha]
  exact congrArg (fun l => X ++ l) (va_pl_congr (wNw_O_SnapshotShelves cyI cyJ cyZ cyO749c2 S a))
theorem wAt_R_I (cyI : ClassId) (cyJ : ClassId) (cyZ : ClassId) (cyO749c2 : ClassId) (S : wPS) {a : Nat} (h : S.K a = 3) : wPF cyI cyJ cyZ cyO749c2 S a = .inl (cyI, S.R_I.len a, .inl (S.R_I.row a)) := by simp [wPF, h]
theorem wGt_R_I (cyI : ClassId) (cyJ : ClassId) (cyZ : ClassId) (cyO749c2 : ClassId) (X : va_W) (S : wPS) {a : Nat} (hL : a ∈ S.L) (h : S.K a = 3) : ∃ k : Nat, (X ++ va_pl S.L (wPF cyI cyJ cyZ cyO749c2 S))[k]? = some (a, wPF cyI cyJ cyZ cyO749c2 S a) ∧ (X ++ va_pl S.L (wPF cyI cyJ cyZ cyO749c2 S))[k]? = some (a, .inl (cyI, S.R_I.len a, .inl (S.R_I.row a))) := by
  obtain ⟨k, hk⟩ := va_pl_get (X := X) (f := wPF cyI cyJ cyZ cyO749c2 S) hL
  exact ⟨k, hk, hk.trans (congrArg (fun e => some (a, e)) (wAt_R_I cyI cyJ cyZ cyO749c2 S h))⟩
theorem wSt_R_I_row (cyI : ClassId) (cyJ : ClassId) (cyZ : ClassId) (cyO749c2 : ClassId) (S : wPS) {a : Nat} (h : S.K a = 3) (v : Nat → Int32) (b : Nat) : va_up (wPF cyI cyJ cyZ cyO749c2 S) a (.inl (cyI, S.R_I.len a, .inl v)) b = wPF cyI cyJ cyZ cyO749c2 { S with R_I := { S.R_I with row := va_up S.R_I.row a v } } b := by by_cases hb : b = a <;> first | (simp only [wPF, va_up_ne _ _ hb]; done) | (simp only [wPF, va_up, if_neg hb]; done) | simp [wPF, va_re, va_up, va_rf, hb, h]
theorem wPu_R_I_row (cyI : ClassId) (cyJ : ClassId) (cyZ : ClassId) (cyO749c2 : ClassId) (X : va_W) (S : wPS) {A : Nat → Prop} {a k : Nat} (hD : va_D A (X ++ va_pl S.L (wPF cyI cyJ cyZ cyO749c2 S))) (hL : a ∈ S.L) (h : S.K a = 3) (hk : (X ++ va_pl S.L (wPF cyI cyJ cyZ cyO749c2 S))[k]? = some (a, wPF cyI cyJ cyZ cyO749c2 S a)) (v : Nat → Int32) : (X ++ va_pl S.L (wPF cyI cyJ cyZ cyO749c2 S)).set k (a, .inl (cyI, S.R_I.len a, .inl v)) = X ++ va_pl S.L (wPF cyI cyJ cyZ cyO749c2 { S with R_I := { S.R_I with row := va_up S.R_I.row a v } }) := by
  rw [va_pl_set hD hL hk]
  exact congrArg (fun l => X ++ l) (va_pl_congr (wSt_R_I_row cyI cyJ cyZ cyO749c2 S h v))
theorem wNw_R_I (cyI : ClassId) (cyJ : ClassId) (cyZ : ClassId) (cyO749c2 : ClassId) (S : wPS) (a : Nat) (z : Nat) (f : Nat → Int32) (b : Nat) : va_up (wPF cyI cyJ cyZ cyO749c2 S) a (.inl (cyI, z, .inl f)) b = wPF cyI cyJ cyZ cyO749c2 { S with L := S.L ++ [a], K := va_up S.K a 3, R_I := { len := va_up S.R_I.len a z, row := va_up S.R_I.row a f } } b := by by_cases hb : b = a <;> first | (simp only [wPF, va_up_ne _ _ hb]; done) | (simp only [wPF, va_up, if_neg hb]; done) | simp [wPF, va_re, va_up, va_rf, hb]
theorem wAt_R_J (cyI : ClassId) (cyJ : ClassId) (cyZ : ClassId) (cyO749c2 : ClassId) (S : wPS) {a : Nat} (h : S.K a = 4) : wPF cyI cyJ cyZ cyO749c2 S a = .inl (cyJ, S.R_J.len a, .inr (.inl (S.R_J.row a))) := by simp [wPF, h]
theorem wGt_R_J (cyI : ClassId) (cyJ : ClassId) (cyZ : ClassId) (cyO749c2 : ClassId) (X : va_W) (S : wPS) {a : Nat} (hL : a ∈ S.L) (h : S.K a = 4) : ∃ k : Nat, (X ++ va_pl S.L (wPF cyI cyJ cyZ cyO749c2 S))[k]? = some (a, wPF cyI cyJ cyZ cyO749c2 S a) ∧ (X ++ va_pl S.L (wPF cyI cyJ cyZ cyO749c2 S))[k]? = some (a, .inl (cyJ, S.R_J.len a, .inr (.inl (S.R_J.row a)))) := by
  obtain ⟨k, hk⟩ := va_pl_get (X := X) (f := wPF cyI cyJ cyZ cyO749c2 S) hL
  exact ⟨k, hk, hk.trans (congrArg (fun e => some (a, e)) (wAt_R_J cyI cyJ cyZ cyO749c2 S h))⟩
theorem wSt_R_J_row (cyI : ClassId) (cyJ : ClassId) (cyZ : ClassId) (cyO749c2 : ClassId) (S : wPS) {a : Nat} (h : S.K a = 4) (v : Nat → Int64) (b : Nat) : va_up (wPF cyI cyJ cyZ cyO749c2 S) a (.inl (cyJ, S.R_J.len a, .inr (.inl v))) b = wPF cyI cyJ cyZ cyO749c2 { S with R_J := { S.R_J with row := va_up S.R_J.row a v } } b := by by_cases hb : b = a <;> first | (simp only [wPF, va_up_ne _ _ hb]; done) | (simp only [wPF, va_up, if_neg hb]; done) | simp [wPF, va_re, va_up, va_rf, hb, h]
theorem wPu_R_J_row (cyI : ClassId) (cyJ : ClassId) (cyZ : ClassId) (cyO749c2 : ClassId) (X : va_W) (S : wPS) {A : Nat → Prop} {a k : Nat} (hD : va_D A (X ++ va_pl S.L (wPF cyI cyJ cyZ cyO749c2 S))) (hL : a ∈ S.L) (h : S.K a = 4) (hk : (X ++ va_pl S.L (wPF cyI cyJ cyZ cyO749c2 S))[k]? = some (a, wPF cyI cyJ cyZ cyO749c2 S a)) (v : Nat → Int64) : (X ++ va_pl S.L (wPF cyI cyJ cyZ cyO749c2 S)).set k (a, .inl (cyJ, S.R_J.len a, .inr (.inl v))) = X ++ va_pl S.L (wPF cyI cyJ cyZ cyO749c2 { S with R_J := { S.R_J with row := va_up S.R_J.row a v } }) := by
  rw [va_pl_set hD hL hk]
  exact congrArg (fun l => X ++ l) (va_pl_congr (wSt_R_J_row cyI cyJ cyZ cyO749c2 S h v))
theorem wNw_R_J (cyI : ClassId) (cyJ : ClassId) (cyZ : ClassId) (cyO749c2 : ClassId) (S : wPS) (a : Nat) (z : Nat) (f : Nat → Int64) (b : Nat) : va_up (wPF cyI cyJ cyZ cyO749c2 S) a (.inl (cyJ, z, .inr (.inl f))) b = wPF cyI cyJ cyZ cyO749c2 { S with L := S.L ++ [a], K := va_up S.K a 4, R_J := { len := va_up S.R_J.len a z, row := va_up S.R_J.row a f } } b := by by_cases hb : b = a <;> first | (simp only [wPF, va_up_ne _ _ hb]; done) | (simp only [wPF, va_up, if_neg hb]; done) | simp [wPF, va_re, va_up, va_rf, hb]
theorem wAt_R_Z (cyI : ClassId) (cyJ : ClassId) (cyZ : ClassId) (cyO749c2 : ClassId) (S : wPS) {a : Nat} (h : S.K a = 5) : wPF cyI cyJ cyZ cyO749c2 S a = .inl (cyZ, S.R_Z.len a, .inl (S.R_Z.row a)) := by simp [wPF, h]
theorem wGt_R_Z (cyI : ClassId) (cyJ : ClassId) (cyZ : ClassId) (cyO749c2 : ClassId) (X : va_W) (S : wPS) {a : Nat} (hL : a ∈ S.L) (h : S.K a = 5) : ∃ k : Nat, (X ++ va_pl S.L (wPF cyI cyJ cyZ cyO749c2 S))[k]? = some (a, wPF cyI cyJ cyZ cyO749c2 S a) ∧ (X ++ va_pl S.L (wPF cyI cyJ cyZ cyO749c2 S))[k]? = some (a, .inl (cyZ, S.R_Z.len a, .inl (S.R_Z.row a))) := by
  obtain ⟨k, hk⟩ := va_pl_get (X := X) (f := wPF cyI cyJ cyZ cyO749c2 S) hL
  exact ⟨k, hk, hk.trans (congrArg (fun e => some (a, e)) (wAt_R_Z cyI cyJ cyZ cyO749c2 S h))⟩
theorem wSt_R_Z_row (cyI : ClassId) (cyJ : ClassId) (cyZ : ClassId) (cyO749c2 : ClassId) (S : wPS) {a : Nat} (h : S.K a = 5) (v : Nat → Int32) (b : Nat) : va_up (wPF cyI cyJ cyZ cyO749c2 S) a (.inl (cyZ, S.R_Z.len a, .inl v)) b = wPF cyI cyJ cyZ cyO749c2 { S with R_Z := { S.R_Z with row := va_up S.R_Z.row a v } } b := by by_cases hb : b = a <;> first | (simp only [wPF, va_up_ne _ _ hb]; done) | (simp only [wPF, va_up, if_neg hb]; done) | simp [wPF, va_re, va_up, va_rf, hb, h]
theorem wPu_R_Z_row (cyI : ClassId) (cyJ : ClassId) (cyZ : ClassId) (cyO749c2 : ClassId) (X : va_W) (S : wPS) {A : Nat → Prop} {a k : Nat} (hD : va_D A (X ++ va_pl S.L (wPF cyI cyJ cyZ cyO749c2 S))) (hL : a ∈ S.L) (h : S.K a = 5) (hk : (X ++ va_pl S.L (wPF cyI cyJ cyZ cyO749c2 S))[k]? = some (a, wPF cyI cyJ cyZ cyO749c2 S a)) (v : Nat → Int32) : (X ++ va_pl S.L (wPF cyI cyJ cyZ cyO749c2 S)).set k (a, .inl (cyZ, S.R_Z.len a, .inl v)) = X ++ va_pl S.L (wPF cyI cyJ cyZ cyO749c2 { S with R_Z := { S.R_Z with row := va_up S.R_Z.row a v } }) := by
  rw [va_pl_set hD hL hk]
  exact congrArg (fun l => X ++ l) (va_pl_congr (wSt_R_Z_row cyI cyJ cyZ cyO749c2 S h v))
theorem wNw_R_Z (cyI : ClassId) (cyJ : ClassId) (cyZ : ClassId) (cyO749c2 : ClassId) (S : wPS) (a : Nat) (z : Nat) (f : Nat → Int32) (b : Nat) : va_up (wPF cyI cyJ cyZ cyO749c2 S) a (.inl (cyZ, z, .inl f)) b = wPF cyI cyJ cyZ cyO749c2 { S with L := S.L ++ [a], K := va_up S.K a 5, R_Z := { len := va_up S.R_Z.len a z, row := va_up S.R_Z.row a f } } b := by by_cases hb : b = a <;> first | (simp only [wPF, va_up_ne _ _ hb]; done) | (simp only [wPF, va_up, if_neg hb]; done) | simp [wPF, va_re, va_up, va_rf, hb]
theorem wAt_R_Transaction (cyI : ClassId) (cyJ : ClassId) (cyZ : ClassId) (cyO749c2 : ClassId) (S : wPS) {a : Nat} (h : S.K a = 6) : wPF cyI cyJ cyZ cyO749c2 S a = .inl (cyO749c2, S.R_Transaction.len a, .inr (.inr (.inr (.inr (S.R_Transaction.row a))))) := by simp [wPF, h]
theorem wGt_R_Transaction (cyI : ClassId) (cyJ : ClassId) (cyZ : ClassId) (cyO749c2 : ClassId) (X : va_W) (S : wPS) {a : Nat} (hL : a ∈ S.L) (h : S.K a = 6) : ∃ k : Nat, (X ++ va_pl S.L (wPF cyI cyJ cyZ cyO749c2 S))[k]? = some (a, wPF cyI cyJ cyZ cyO749c2 S a) ∧ (X ++ va_pl S.L (wPF cyI cyJ cyZ cyO749c2 S))[k]? = some (a, .inl (cyO749c2, S.R_Transaction.len a, .inr (.inr (.inr (.inr (S.R_Transaction.row a)))))) := by
  obtain ⟨k, hk⟩ := va_pl_get (X := X) (f := wPF cyI cyJ cyZ cyO749c2 S) hL
  exact ⟨k, hk, hk.trans (congrArg (fun e => some (a, e)) (wAt_R_Transaction cyI cyJ cyZ cyO749c2 S h))⟩
theorem wSt_R_Transaction_row (cyI : ClassId) (cyJ : ClassId) (cyZ : ClassId) (cyO749c2 : ClassId) (S : wPS) {a : Nat} (h : S.K a = 6) (v : Nat → Option Nat) (b : Nat) : va_up (wPF cyI cyJ cyZ cyO749c2 S) a (.inl (cyO749c2, S.R_Transaction.len a, .inr (.inr (.inr (.inr v))))) b = wPF cyI cyJ cyZ cyO749c2 { S with R_Transaction := { S.R_Transaction with row := va_up S.R_Transaction.row a v } } b := by by_cases hb : b = a <;> first | (simp only [wPF, va_up_ne _ _ hb]; done) | (simp only [wPF, va_up, if_neg hb]; done) | simp [wPF, va_re, va_up, va_rf, hb, h]
theorem wPu_R_Transaction_row (cyI : ClassId) (cyJ : ClassId) (cyZ : ClassId) (cyO749c2 : ClassId) (X : va_W) (S : wPS) {A : Nat → Prop} {a k : Nat} (hD : va_D A (X ++ va_pl S.L (wPF cyI cyJ cyZ cyO749c2 S))) (hL : a ∈ S.L) (h : S.K a = 6) (hk : (X ++ va_pl S.L (wPF cyI cyJ cyZ cyO749c2 S))[k]? = some (a, wPF cyI cyJ cyZ cyO749c2 S a)) (v : Nat → Option Nat) : (X ++ va_pl S.L (wPF cyI cyJ cyZ cyO749c2 S)).set k (a, .inl (cyO749c2, S.R_Transaction.len a, .inr (.inr (.inr (.inr v))))) = X ++ va_pl S.L (wPF cyI cyJ cyZ cyO749c2 { S with R_Transaction := { S.R_Transaction with row := va_up S.R_Transaction.row a v } }) := by
  rw [va_pl_set hD hL hk]
  exact congrArg (fun l => X ++ l) (va_pl_congr (wSt_R_Transaction_row cyI cyJ cyZ cyO749c2 S h v))
theorem wNw_R_Transaction (cyI : ClassId) (cyJ : ClassId) (cyZ : ClassId) (cyO749c2 : ClassId) (S : wPS) (a : Nat) (z : Nat) (f : Nat → Option Nat) (b : Nat) : va_up (wPF cyI cyJ cyZ cyO749c2 S) a (.inl (cyO749c2, z, .inr (.inr (.inr (.inr f))))) b = wPF cyI cyJ cyZ cyO749c2 { S with L := S.L ++ [a], K := va_up S.K a 6, R_Transaction := { len := va_up S.R_Transaction.len a z, row := va_up S.R_Transaction.row a f } } b := by by_cases hb : b = a <;> first | (simp only [wPF, va_up_ne _ _ hb]; done) | (simp only [wPF, va_up, if_neg hb]; done) | simp [wPF, va_re, va_up, va_rf, hb]
/-! ===== END printed: names ===== -/
