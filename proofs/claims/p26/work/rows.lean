section
-- ===== PART A: goes FIRST, ahead of the names: the tables' words, and 'selects' of the private methods out of them =====
/-- a private method of a class that the tables say can be made, by its rows of tables_1 -/
def lw_okq (q : MethodName × Nat) : Prop := (q.1.cls ≠ "java/lang/invoke/MethodHandle" ∧ q.1.cls ≠ "java/lang/invoke/VarHandle") ∧ Cond.instantiable q.1.cls q.2 ∈ tables_1 ∧ Cond.privateMethod q.1 ∈ tables_1 ∧ Cond.instanceMethod q.1 ∈ tables_1
theorem lw_p0 : lw_okq (⟨"java/lang/Throwable", "fillInStackTrace", "(I)Ljava/lang/Throwable;"⟩, 6) := ⟨⟨by decide +kernel, by decide +kernel⟩, List.mem_of_getElem? (i := 153) (by decide +kernel), List.mem_of_getElem? (i := 151) (by decide +kernel), List.mem_of_getElem? (i := 152) (by decide +kernel)⟩
theorem lw_p1 : lw_okq (⟨"TapePrinter", "takeIn", "(I)I"⟩, 10) := ⟨⟨by decide +kernel, by decide +kernel⟩, List.mem_of_getElem? (i := 14) (by decide +kernel), List.mem_of_getElem? (i := 198) (by decide +kernel), List.mem_of_getElem? (i := 199) (by decide +kernel)⟩
theorem lw_p2 : lw_okq (⟨"TapePrinter", "obey", "(I)V"⟩, 10) := ⟨⟨by decide +kernel, by decide +kernel⟩, List.mem_of_getElem? (i := 14) (by decide +kernel), List.mem_of_getElem? (i := 214) (by decide +kernel), List.mem_of_getElem? (i := 215) (by decide +kernel)⟩
theorem lw_p3 : lw_okq (⟨"TapePrinter", "figuresBehind", "(IZ)Z"⟩, 10) := ⟨⟨by decide +kernel, by decide +kernel⟩, List.mem_of_getElem? (i := 14) (by decide +kernel), List.mem_of_getElem? (i := 235) (by decide +kernel), List.mem_of_getElem? (i := 236) (by decide +kernel)⟩
theorem lw_p4 : lw_okq (⟨"TapePrinter", "shiftsToLetters", "(I)Z"⟩, 10) := ⟨⟨by decide +kernel, by decide +kernel⟩, List.mem_of_getElem? (i := 14) (by decide +kernel), List.mem_of_getElem? (i := 239) (by decide +kernel), List.mem_of_getElem? (i := 240) (by decide +kernel)⟩
theorem lw_p5 : lw_okq (⟨"TapePrinter", "counted", "(I)I"⟩, 10) := ⟨⟨by decide +kernel, by decide +kernel⟩, List.mem_of_getElem? (i := 14) (by decide +kernel), List.mem_of_getElem? (i := 305) (by decide +kernel), List.mem_of_getElem? (i := 306) (by decide +kernel)⟩
theorem lw_p6 : lw_okq (⟨"TapePrinter", "servesBehind", "(I)Z"⟩, 10) := ⟨⟨by decide +kernel, by decide +kernel⟩, List.mem_of_getElem? (i := 14) (by decide +kernel), List.mem_of_getElem? (i := 337) (by decide +kernel), List.mem_of_getElem? (i := 338) (by decide +kernel)⟩
theorem lw_p7 : lw_okq (⟨"TapePrinter", "figuresAhead", "(I)Z"⟩, 10) := ⟨⟨by decide +kernel, by decide +kernel⟩, List.mem_of_getElem? (i := 14) (by decide +kernel), List.mem_of_getElem? (i := 345) (by decide +kernel), List.mem_of_getElem? (i := 346) (by decide +kernel)⟩
theorem lw_p8 : lw_okq (⟨"TapePrinter", "figuresAtEnd", "()Z"⟩, 10) := ⟨⟨by decide +kernel, by decide +kernel⟩, List.mem_of_getElem? (i := 14) (by decide +kernel), List.mem_of_getElem? (i := 473) (by decide +kernel), List.mem_of_getElem? (i := 474) (by decide +kernel)⟩
def lw_privs_1 : List (MethodName × Nat) := [(⟨"java/lang/Throwable", "fillInStackTrace", "(I)Ljava/lang/Throwable;"⟩, 6), (⟨"TapePrinter", "takeIn", "(I)I"⟩, 10), (⟨"TapePrinter", "obey", "(I)V"⟩, 10), (⟨"TapePrinter", "figuresBehind", "(IZ)Z"⟩, 10), (⟨"TapePrinter", "shiftsToLetters", "(I)Z"⟩, 10), (⟨"TapePrinter", "counted", "(I)I"⟩, 10), (⟨"TapePrinter", "servesBehind", "(I)Z"⟩, 10), (⟨"TapePrinter", "figuresAhead", "(I)Z"⟩, 10), (⟨"TapePrinter", "figuresAtEnd", "()Z"⟩, 10)]
theorem lw_r1 : ∀ q ∈ lw_privs_1, lw_okq q := List.forall_mem_cons.mpr ⟨lw_p0, List.forall_mem_cons.mpr ⟨lw_p1, List.forall_mem_cons.mpr ⟨lw_p2, List.forall_mem_cons.mpr ⟨lw_p3, List.forall_mem_cons.mpr ⟨lw_p4, List.forall_mem_cons.mpr ⟨lw_p5, List.forall_mem_cons.mpr ⟨lw_p6, List.forall_mem_cons.mpr ⟨lw_p7, List.forall_mem_cons.mpr ⟨lw_p8, fun _ h => absurd h List.not_mem_nil⟩⟩⟩⟩⟩⟩⟩⟩⟩
def lw_privs : List (MethodName × Nat) := lw_privs_1
def lw_tbl : List Cond := k2_sels lw_privs ++ tables_1
theorem lw_privs_ok : ∀ q ∈ lw_privs, lw_okq q := lw_r1
/-- the streams that the claim lets the run draw from -/
abbrev lw_cs : List Choice := [Jvm.Choice.named "NaN.bits"]
theorem lw_bits : nanBits ∈ lw_cs := by first | decide | exact List.mem_cons_self | simp [lw_cs, nanBits]
end
section
/-! ===== BEGIN words of one list among another's, by their places ===== -/
theorem goodIn_r {big : List Cond} (ws : List Cond) (ps : List Nat) (hp : ws = ps.filterMap (fun i => big[i]?)) (h : ws.all goodWord = true) : GoodIn big ws := by
  intro w hw
  have h1 := List.all_eq_true.mp h w hw
  rw [hp] at hw
  obtain ⟨i, -, hi⟩ := List.mem_filterMap.mp hw
  have hm : w ∈ big := by first | exact List.mem_of_getElem? hi | exact List.getElem?_mem hi
  exact ⟨hm, good_of_word h1⟩
theorem goodIn_app {big a b : List Cond} (ha : GoodIn big a) (hb : GoodIn big b) : GoodIn big (a ++ b) := fun w h => (List.mem_append.mp h).elim (ha w) (hb w)
theorem goodIn_ca {big a b : List Cond} {c : Cond} (ha : GoodIn big (c :: a)) (hb : GoodIn big b) : GoodIn big (c :: (a ++ b)) := fun w h => (List.mem_cons.mp h).elim (fun e => ha w (List.mem_cons.mpr (Or.inl e))) (fun h => (List.mem_append.mp h).elim (fun h => ha w (List.mem_cons.mpr (Or.inr h))) (hb w))
theorem goodIn_sub {big ws : List Cond} (hm : ∀ w ∈ ws, w ∈ big) (h : ws.all goodWord = true) : GoodIn big ws := fun w hw => ⟨hm w hw, good_of_word (List.all_eq_true.mp h w hw)⟩
/-! ===== END ===== -/

/-! ===== BEGIN exceptions that leave a method, and their catching by the caller (launches without stack traces) ===== -/
section VXA
/-! The laws vx_back, vx_callV, vx_callS, vx_callSW, vx_throw0, vx_throwS follow proofs of the library, with one case more: JvmDerived/Free/Laws.lean (Back.of_free), Shelf42/LK1.lean (callV, callS), Shelf/KitTraced.lean (throwNew0V, throwNewS). -/
/-- where a method has thrown q: the class by its name, the cell, what was written, the world -/
def vx_T (XC : String → State → State → Prop) (st : State) (q : Addr) (t : State) (mc ms : Nat) (free : Addr → Prop) : Prop :=
  ∃ (E : String) (ce : Cell) (L : List Loc), XC E st t ∧ t.heap[q]? = some ce ∧ ce.vm = .none ∧ st.vm.findClass E = some ce.cls ∧ st.WarmedH t.vm ∧ st.sameButNew ({ t with vm := st.vm } : State) L mc ms ∧ ∀ z ∈ L, free z.base
def vx_Q (Qc : Array Value → State → Outcome → State → Prop) (XC : String → State → State → Prop) (mc ms : Nat) (free : Addr → Prop) : Array Value → State → Outcome → State → Prop := fun a st o t =>
  (Qc a st o t ∧ ∃ L, FrameEnd st o t L mc ms ∧ ∀ q ∈ L, free q.base) ∨ ∃ q, o = .threw q ∧ vx_T XC st q t mc ms free
/-- a callee that returns or throws -/
def vx_Met (l : Launch) (y : MethodName) (ws : List Cond) (rm : Room) (Pc : Array Value → State → Prop) (Qc : Array Value → State → Outcome → State → Prop) (XC : String → State → State → Prop) (mc ms : Nat) (free : Addr → Prop) : Prop :=
  MetFree l y (headSpec ws rm) Pc (fun _ _ _ _ _ => True) (vx_Q Qc XC mc ms free)
def vx_Post (XC : String → State → State → Prop) (mc ms : Nat) (free : Addr → Prop) : Pt → Array Value → Addr → Pt → Prop := fun A a q B =>
  ∃ (g : JFrame) (mk : MethodId) (t : State) (L : List Loc) (E : String) (ce : Cell), B.U.heap = t.heap ∧ B.U.vm = t.vm ∧ XC E (A.U.calling g mk a) t ∧ t.heap[q]? = some ce ∧ ce.vm = .none ∧ A.U.vm.findClass E = some ce.cls ∧ B.locs = A.locs ++ L ∧ (∀ z ∈ L, free z.base) ∧ B.cells = A.cells + mc ∧ B.slots = A.slots + ms
def vx_Back (l : Launch) (R : Room) (p : Program) (e : Env) (below : List Frame) (s : State) (sargs : Array Value) (y : MethodName) (len W9 : Nat)
    (Pre : Pt → Array Value → Prop) (Post : Pt → Array Value → Option Value → Pt → Prop) (PostX : Pt → Array Value → Addr → Pt → Prop) : Prop :=
  ∀ (m : MethodId) (meth : Method) (c : Code) (A : Pt) (g : JFrame) (ig : Instr) (mk : MethodId) (a : Array Value),
    Stand p l e R s m sargs below meth c A.U A.locs A.cells A.slots → g.method = m → g.locals.size = c.maxLocals → decode c.code g.pc = .ok (ig, len) →
    2 * g.monitorRoom + (g.stack.map fun v => v.category).sum ≤ W9 → A.U.methodNamed? y = some mk → Pre A a →
    (∃ (v : Option Value) (B : Pt), Stand p l e R s m sargs below meth c B.U B.locs B.cells B.slots ∧ Post A a v B ∧
      Steps p.tables e below (doInvoke e (A.U.setTop g) [] mk a).1 (B.U.setTop { g with pc := g.pc + len, stack := v.toList ++ g.stack })) ∨
    (∃ (q : Addr) (B : Pt), Stand p l e R s m sargs below meth c B.U B.locs B.cells B.slots ∧ PostX A a q B ∧
      Steps p.tables e below (doInvoke e (A.U.setTop g) [] mk a).1 ((B.U.setTop g).pushFrame (.throwing q)))
section Payer
variable {l : Launch} {R : Room} {p : Program} {e : Env} {below : List Frame} {s : State} {sargs : Array Value} {y : MethodName} {len W9 : Nat}
theorem vx_back {ws : List Cond} {rm : Room} {Pc : Array Value → State → Prop} {Qc : Array Value → State → Outcome → State → Prop} {XC : String → State → State → Prop} {mc ms : Nat} {free : Addr → Prop} {bytes : ByteArray} {maxL : Nat} {ret : Option FieldType}
    (hM : vx_Met l y ws rm Pc Qc XC mc ms free) (hblind : FrameBlind Pc) (hrc : rm.cells = mc) (hrs : rm.slots = ms)
    (hframes : rm.frames + 1 ≤ R.frames) (hlocals : W9 + (maxL + 11) + rm.locals ≤ R.locals)
    (hws : ∀ w ∈ ws, ∀ a' U, s.WarmedH U.vm → w.before a' U = true) (hcode : Cond.code y bytes maxL ret ∈ ws) (hinit : ∀ a' U, s.WarmedH U.vm → (Cond.initialized y.cls).before a' U = true) :
    vx_Back l R p e below s sargs y len W9 (PreOf R mc ms Pc) (PostOf Qc mc ms free) (vx_Post XC mc ms free) := by
  intro m meth c A g ig mk a X hg hsize hdg hW hn hp
  have h1 : (headSpec ws rm).pre.before a A.U = true := atoms_intro fun w hw => hws w hw _ _ X.warmed
  have h2 : (Cond.code y bytes maxL ret).before a A.U = true := hws _ hcode _ _ X.warmed
  have h3 : (Cond.initialized y.cls).before a A.U = true := hinit _ _ X.warmed
  have h4 : A.cells + (headSpec ws rm).room.cells ≤ R.cells := by rw [show (headSpec ws rm).room.cells = mc from hrc]; exact hp.1
  have h5 : A.slots + (headSpec ws rm).room.slots ≤ R.slots := by rw [show (headSpec ws rm).room.slots = ms from hrs]; exact hp.2.1
  have hPc : Pc a (A.U.calling g mk a) := hblind _ _ _ _ hp.2.2
  obtain ⟨U, Ls, c0, s0⟩ := A
  dsimp only [Pt.U, Pt.locs, Pt.cells, Pt.slots] at h1 h2 h3 h4 h5 X hn hPc ⊢
  obtain ⟨methY, cY, hmY, hcY, -, hlY, -, -, -, -⟩ := Cond.code_spec hn h2
  obtain ⟨kY, hkY, -⟩ := className_of_methodNamed hn
  have hinitY : kY.init = .initialized := Cond.initialized_spec (findClass_of_methodNamed hn) hkY h3
  have h : At U g.method c below := by rw [hg]; exact X.here
  have hlocals9 : W9 + (maxL + 11) + (headSpec ws rm).room.locals ≤ R.locals := hlocals
  have happ : (headSpec ws rm).appliesLoose y e.platform (U.calling g mk a) = true :=
    Spec.appliesLoose_calling (g := g) h hdg hn hkY hinitY
      (X.room_calling (g := g) (R' := (headSpec ws rm).room) hsize hmY hcY hframes (by rw [hlY]; omega) h4 h5) h1
  obtain ⟨mid, hmid⟩ := h.above
  have hfr : (U.setTop g).frames = (.java g :: mid) ++ below := by rw [State.frames_setTop' g h.top, hmid]; rfl
  obtain ⟨o, s₂, hsteps, -, hend, hq⟩ := Steps.callFree hM p X.admits X.cas X.clock (acts := []) hfr happ hPc trivial
  have hq' : vx_Q Qc XC mc ms free a (U.calling g mk a) o s₂ := hq
  rw [State.frames_setTop' g h.top] at hend
  obtain ⟨g₀, hg0⟩ := Option.isSome_iff_exists.mp h.top
  obtain ⟨r, hr⟩ := State.topJava?_eq_some.mp hg0
  have hr' : (({ U with heap := s₂.heap, slotsUsed := s₂.slotsUsed } : State).setVm s₂.vm).frames = .java g₀ :: r := hr
  rcases hq' with ⟨hqc, L, hfe, hL⟩ | ⟨q, rfl, E, ce, L, hx, hce, hcv, hcl, hW₂, hsm, hL⟩
  · obtain ⟨⟨v, rfl⟩, hW₂, e2, q2, q3, q4, q5, q6⟩ := id hfe
    have e3 : s₂ = ({ (U.calling g mk a).setFrames s₂.frames with heap := s₂.heap, slotsUsed := s₂.slotsUsed } : State).setVm s₂.vm := by
      have : s₂ = ({ s₂ with vm := (U.calling g mk a).vm } : State).setVm s₂.vm := rfl
      rw [e2] at this
      exact this
    obtain ⟨c₂, i₂, len₂, hc₂, hd₂, hf₂⟩ := hend
    have hW' : U.WarmedH s₂.vm := hW₂
    have hcc : c₂ = c := by
      have h1 : s₂.code? g.method = U.code? g.method := by
        rw [State.code?_eq, State.code?_eq, hW'.alike.method?]
      exact Option.some.inj (hc₂.symm.trans (h1.trans h.code))
    subst hcc
    have hlen : len₂ = len := by rw [hdg] at hd₂; cases hd₂; rfl
    subst hlen
    have hs₂ : s₂ = (({ U with heap := s₂.heap, slotsUsed := s₂.slotsUsed } : State).setVm s₂.vm).setTop { g with pc := g.pc + len₂, stack := v.toList ++ g.stack } := by
      refine e3.trans ?_
      rw [hf₂, State.calling_eq h.top, State.setFrames_setFrames, State.setTop_of_frames _ hr', hr]
      rfl
    have hsame : U.sameButNew ({ U with heap := s₂.heap, slotsUsed := s₂.slotsUsed } : State) L mc ms := by
      refine ⟨?_, q2, q3, q4, q5, q6⟩
      obtain ⟨t, ht, -⟩ := State.frames_cons hr
      show ({ U with heap := s₂.heap, slotsUsed := s₂.slotsUsed } : State) = { U.setFrames U.frames with heap := s₂.heap, slotsUsed := s₂.slotsUsed }
      rw [State.setFrames_self ht]
    subst hg
    refine Or.inl ⟨v, ⟨(({ U with heap := s₂.heap, slotsUsed := s₂.slotsUsed } : State).setVm s₂.vm), Ls ++ L, c0 + mc, s0 + ms⟩,
      ⟨X.admits, X.cas, X.clock, X.frames, X.room, X.hears, X.method, X.code, (X.here.setHeapUsed s₂.heap s₂.slotsUsed).setVm hW'.alike, X.tail, State.WarmedH.trans X.warmed hW', X.limits, X.bytes, X.same.trans (hsame.setVm s.vm)⟩,
      ⟨g, mk, s₂, L, rfl, rfl, hqc, rfl, hL, rfl, rfl⟩, ?_⟩
    show Steps p.tables e below _ ((({ U with heap := s₂.heap, slotsUsed := s₂.slotsUsed } : State).setVm s₂.vm).setTop { g with pc := g.pc + len₂, stack := v.toList ++ g.stack })
    rw [← hs₂]
    exact hsteps
  · obtain ⟨e2, q2, q3, q4, q5, q6⟩ := id hsm
    have e3 : s₂ = ({ (U.calling g mk a).setFrames s₂.frames with heap := s₂.heap, slotsUsed := s₂.slotsUsed } : State).setVm s₂.vm := by
      have : s₂ = ({ s₂ with vm := (U.calling g mk a).vm } : State).setVm s₂.vm := rfl
      rw [e2] at this
      exact this
    have hf₂ : s₂.frames = .throwing q :: .java g :: U.frames.tail := hend
    have hW' : U.WarmedH s₂.vm := hW₂
    have hs₂ : s₂ = ((({ U with heap := s₂.heap, slotsUsed := s₂.slotsUsed } : State).setVm s₂.vm).setTop g).pushFrame (.throwing q) := by
      refine e3.trans ?_
      rw [hf₂, State.calling_eq h.top, State.setFrames_setFrames, State.pushFrame, State.frames_setTop _ hr', State.setTop_of_frames _ hr', State.setFrames_setFrames, hr]
      rfl
    have hsame : U.sameButNew ({ U with heap := s₂.heap, slotsUsed := s₂.slotsUsed } : State) L mc ms := by
      refine ⟨?_, q2, q3, q4, q5, q6⟩
      obtain ⟨t, ht, -⟩ := State.frames_cons hr
      show ({ U with heap := s₂.heap, slotsUsed := s₂.slotsUsed } : State) = { U.setFrames U.frames with heap := s₂.heap, slotsUsed := s₂.slotsUsed }
      rw [State.setFrames_self ht]
    subst hg
    refine Or.inr ⟨q, ⟨(({ U with heap := s₂.heap, slotsUsed := s₂.slotsUsed } : State).setVm s₂.vm), Ls ++ L, c0 + mc, s0 + ms⟩,
      ⟨X.admits, X.cas, X.clock, X.frames, X.room, X.hears, X.method, X.code, (X.here.setHeapUsed s₂.heap s₂.slotsUsed).setVm hW'.alike, X.tail, State.WarmedH.trans X.warmed hW', X.limits, X.bytes, X.same.trans (hsame.setVm s.vm)⟩,
      ⟨g, mk, s₂, L, E, ce, rfl, rfl, hx, hce, hcv, hcl, rfl, hL, rfl, rfl⟩, ?_⟩
    show Steps p.tables e below _ (((({ U with heap := s₂.heap, slotsUsed := s₂.slotsUsed } : State).setVm s₂.vm).setTop g).pushFrame (.throwing q))
    rw [← hs₂]
    exact hsteps
end Payer
section Calls
variable {p : Program} {l : Launch} {e : Env} {R : Room} {s : State} {m : MethodId} {args : Array Value} {below : List Frame} {meth : Method} {c : Code} {T : State} {locs : List Loc} {cells slots : Nat}
theorem vx_callV (X : Stand p l e R s m args below meth c T locs cells slots) (hexec : p.tables.exec = Jvm.exec) {own C : String} {index : Nat} {y : MethodName} {bytes : ByteArray} {maxL : Nat} {ret : Option FieldType}
    (hown : s.vm.findClass own = some m.cls) (hlink : (Cond.methodLink own index y).before args s = true) (hinst : (Cond.instanceMethod y).before args s = true) (hsel : (Cond.selects C y y).before args s = true)
    (hcode : (Cond.code y bytes maxL ret).before args s = true) (hy : y.cls ≠ "java/lang/invoke/MethodHandle" ∧ y.cls ≠ "java/lang/invoke/VarHandle")
    {W9 : Nat} {Pre : Pt → Array Value → Prop} {Post : Pt → Array Value → Option Value → Pt → Prop} {PostX : Pt → Array Value → Addr → Pt → Prop} (hK : vx_Back l R p e below s args y 3 W9 Pre Post PostX)
    {b : Addr} {cellB : Cell} (hcell : T.heap[b]? = some cellB) (hobj : cellB.vm.isStatics = false) (hcls : s.vm.findClass C = some cellB.cls)
    {g : JFrame} (hg : g.method = m) (hsize : g.locals.size = c.maxLocals) {argsL rest : List Value} (hlen : ∀ sig, parseMethodDescriptor y.desc = some sig → argsL.length = sig.parameters.length)
    (hstack : g.stack = argsL.reverse ++ .ref b :: rest) (hW : 2 * g.monitorRoom + (rest.map fun v => v.category).sum ≤ W9) (hdg : decode c.code g.pc = .ok (.invokevirtual index, 3))
    (hpre : ∀ vm₁, s.WarmedH vm₁ → Pre ⟨T.setVm vm₁, locs, cells, slots⟩ (Value.ref b :: argsL).toArray) :
    (∃ (v : Option Value) (vm₁ : Vm) (B : Pt), s.WarmedH vm₁ ∧ Stand p l e R s m args below meth c B.U B.locs B.cells B.slots ∧ Post ⟨T.setVm vm₁, locs, cells, slots⟩ (Value.ref b :: argsL).toArray v B ∧
      ∀ target, Steps p.tables e below (B.U.setTop { g with pc := g.pc + 3, stack := v.toList ++ rest }) target → Steps p.tables e below (T.setTop g) target) ∨
    (∃ (q : Addr) (vm₁ : Vm) (B : Pt), s.WarmedH vm₁ ∧ Stand p l e R s m args below meth c B.U B.locs B.cells B.slots ∧ PostX ⟨T.setVm vm₁, locs, cells, slots⟩ (Value.ref b :: argsL).toArray q B ∧
      Steps p.tables e below (T.setTop g) ((B.U.setTop { g with stack := rest }).pushFrame (.throwing q))) := by
  obtain ⟨mk, methM, hnamed, hmethM, hstM, habM⟩ := Cond.instanceMethod_spec hinst
  obtain ⟨methM', cM, hmethM', -, -, -, -, -, -, hsigM⟩ := Cond.code_spec hnamed hcode
  cases hmethM.symm.trans hmethM'
  obtain ⟨c2, r2, m2, q1, q2, q3, q4, kP, hkP, hkPi⟩ := Cond.selects_spec hsel
  cases hcls.symm.trans q1
  cases (State.methodFound?_of_named hnamed hy).symm.trans q2
  cases hnamed.symm.trans q3
  have hselP : selectMethod e.platform s.vm cellB.cls mk = .method mk := by rw [Launch.admits_selectMethod X.admits]; exact q4
  obtain ⟨vm₁, X₁, hstep₁⟩ := X.invokevirtual hexec hown hlink hnamed hmethM hstM hkP hkPi hy (a := b) (cell := cellB) hcell
    (fun z h => by rw [h] at hobj; cases hobj) hselP hmethM habM hkP hkPi (g := g) hg (argsL := argsL) (rest := rest) (hlen _ hsigM) hstack hdg
  rcases hK m meth c ⟨T.setVm vm₁, locs, cells, slots⟩ { g with stack := rest } (.invokevirtual index) mk (Value.ref b :: argsL).toArray X₁ hg hsize hdg hW (X₁.named hnamed) (hpre vm₁ X₁.warmed) with ⟨v, B, X', hpost, hsteps⟩ | ⟨q, B, X', hpost, hsteps⟩
  · exact Or.inl ⟨v, vm₁, B, X₁.warmed, X', hpost, fun target h => hstep₁ _ fun acts => by rw [doInvoke_state]; exact hsteps.trans h⟩
  · exact Or.inr ⟨q, vm₁, B, X₁.warmed, X', hpost, hstep₁ _ fun acts => by rw [doInvoke_state]; exact hsteps⟩
theorem vx_callS (X : Stand p l e R s m args below meth c T locs cells slots) (hexec : p.tables.exec = Jvm.exec) {own : String} {index : Nat} {y : MethodName} {bytes : ByteArray} {maxL : Nat} {ret : Option FieldType}
    (hown : s.vm.findClass own = some m.cls) (hlink : (Cond.methodLink own index y).before args s = true) (hstat : (Cond.static y).before args s = true) (hinit : (Cond.initialized y.cls).before args s = true)
    (hcode : (Cond.code y bytes maxL ret).before args s = true) (hy : y.cls ≠ "java/lang/invoke/MethodHandle" ∧ y.cls ≠ "java/lang/invoke/VarHandle")
    {W9 : Nat} {Pre : Pt → Array Value → Prop} {Post : Pt → Array Value → Option Value → Pt → Prop} {PostX : Pt → Array Value → Addr → Pt → Prop} (hK : vx_Back l R p e below s args y 3 W9 Pre Post PostX)
    {g : JFrame} (hg : g.method = m) (hsize : g.locals.size = c.maxLocals) {argsL rest : List Value} (hlen : ∀ sig, parseMethodDescriptor y.desc = some sig → argsL.length = sig.parameters.length)
    (hstack : g.stack = argsL.reverse ++ rest) (hW : 2 * g.monitorRoom + (rest.map fun v => v.category).sum ≤ W9) (hdg : decode c.code g.pc = .ok (.invokestatic index, 3))
    (hpre : ∀ vm₁, s.WarmedH vm₁ → Pre ⟨T.setVm vm₁, locs, cells, slots⟩ argsL.toArray) :
    (∃ (v : Option Value) (vm₁ : Vm) (B : Pt), s.WarmedH vm₁ ∧ Stand p l e R s m args below meth c B.U B.locs B.cells B.slots ∧ Post ⟨T.setVm vm₁, locs, cells, slots⟩ argsL.toArray v B ∧
      ∀ target, Steps p.tables e below (B.U.setTop { g with pc := g.pc + 3, stack := v.toList ++ rest }) target → Steps p.tables e below (T.setTop g) target) ∨
    (∃ (q : Addr) (vm₁ : Vm) (B : Pt), s.WarmedH vm₁ ∧ Stand p l e R s m args below meth c B.U B.locs B.cells B.slots ∧ PostX ⟨T.setVm vm₁, locs, cells, slots⟩ argsL.toArray q B ∧
      Steps p.tables e below (T.setTop g) ((B.U.setTop { g with stack := rest }).pushFrame (.throwing q))) := by
  obtain ⟨mk, hnamed⟩ := Cond.code_named hcode
  obtain ⟨methM, cM, hmethM, -, -, -, -, -, -, hsigM⟩ := Cond.code_spec hnamed hcode
  have hstatic : methM.isStatic = true := Cond.static_spec hnamed hmethM hstat
  obtain ⟨kP, hkP, -⟩ := className_of_methodNamed hnamed
  have hinitP : kP.init = .initialized := Cond.initialized_spec (findClass_of_methodNamed hnamed) hkP hinit
  obtain ⟨vm₁, X₁, hstep₁⟩ := X.invokestatic hexec hown hlink hnamed hmethM hstatic hkP hinitP hy (g := g) hg (argsL := argsL) (rest := rest) (hlen _ hsigM) hstack hdg
  rcases hK m meth c ⟨T.setVm vm₁, locs, cells, slots⟩ { g with stack := rest } (.invokestatic index) mk argsL.toArray X₁ hg hsize hdg hW (X₁.named hnamed) (hpre vm₁ X₁.warmed) with ⟨v, B, X', hpost, hsteps⟩ | ⟨q, B, X', hpost, hsteps⟩
  · exact Or.inl ⟨v, vm₁, B, X₁.warmed, X', hpost, fun target h => hstep₁ _ fun acts => by rw [doInvoke_state]; exact hsteps.trans h⟩
  · exact Or.inr ⟨q, vm₁, B, X₁.warmed, X', hpost, hstep₁ _ fun acts => by rw [doInvoke_state]; exact hsteps⟩
end Calls
theorem vx_cls {s : State} {T : State} {vm₁ : Vm} {E : String} {k : ClassId} (hW : s.WarmedH vm₁) (h : (T.setVm vm₁).vm.findClass E = some k) : s.vm.findClass E = some k := by
  have h1 : vm₁.findClass E = some k := h
  rw [hW.alike.findClass] at h1
  exact h1
/-- the method's frame g, with q thrown over it -/
def vx_W (p : Program) (l : Launch) (e : Env) (R : Room) (s : State) (m : MethodId) (args : Array Value) (below : List Frame) (meth : Method) (c : Code) (H : Heap) (locs : List Loc) (cells slots : Nat) (Q : State → Prop) (g : JFrame) (q : Addr) : Prop :=
  ∀ T : State, T.heap = H → Stand p l e R s m args below meth c T locs cells slots → ∃ t, Steps p.tables e below ((T.setTop g).pushFrame (.throwing q)) t ∧ Q t
def vx_Run (p : Program) (l : Launch) (e : Env) (R : Room) (s : State) (m : MethodId) (args : Array Value) (below : List Frame) (meth : Method) (c : Code) (H : Heap) (locs : List Loc) (cells slots mc ms : Nat) (g : JFrame) (rest : List Value) (Qa : State → Outcome → State → Prop) (XC : String → State → State → Prop) (free : Addr → Prop) : Prop :=
  ∀ T : State, T.heap = H → Stand p l e R s m args below meth c T locs cells slots →
    (∃ (v : Option Value) (st₀ t T' : State) (L : List Loc), st₀.heap = H ∧ Stand p l e R s m args below meth c T' (locs ++ L) (cells + mc) (slots + ms) ∧ (∀ q ∈ L, free q.base) ∧ T'.heap = t.heap ∧ T'.vm = t.vm ∧ Qa st₀ (.returned v) t ∧
      Goes p e below T g T' { g with pc := g.pc + 3, stack := v.toList ++ rest }) ∨
    (∃ (q : Addr) (st₀ t T' : State) (L : List Loc) (E : String) (ce : Cell), st₀.heap = H ∧ Stand p l e R s m args below meth c T' (locs ++ L) (cells + mc) (slots + ms) ∧ (∀ z ∈ L, free z.base) ∧ T'.heap = t.heap ∧ T'.vm = t.vm ∧ XC E st₀ t ∧ t.heap[q]? = some ce ∧ ce.vm = .none ∧ s.vm.findClass E = some ce.cls ∧
      Steps p.tables e below (T.setTop g) ((T'.setTop { g with stack := rest }).pushFrame (.throwing q)))
def vx_X {S : Type} (px : S → Prop) (B : String → S → State → Prop) (A : Nat → Prop) : String → State → State → Prop := fun E st t => ∃ u : S, px u ∧ B E u t ∧ va_F A st t
section Runs
variable {p : Program} {l : Launch} {e : Env} {R : Room} {s : State} {m : MethodId} {args : Array Value} {below : List Frame} {meth : Method} {c : Code} {H : Heap} {locs : List Loc} {cells slots : Nat}
variable {y : MethodName} {bytes cc : ByteArray} {maxL nL mc ms n index : Nat} {ret : Option FieldType} {ws : List Cond} {rm : Room} {Pc : Array Value → State → Prop} {Qc : Array Value → State → Outcome → State → Prop} {XC : String → State → State → Prop} {free : Addr → Prop} {Ts : List Cond} {own C : String} {b : Addr} {As rest : List Value} {g : JFrame}
theorem vx_callBack (cb : CallB R s args own index y bytes maxL ret ws rm mc ms n) (hM : vx_Met l y ws rm Pc Qc XC mc ms free) (hbl : FrameBlind Pc) : vx_Back l R p e below s args y 3 8 (PreOf R mc ms Pc) (PostOf Qc mc ms free) (vx_Post XC mc ms free) := by
  obtain ⟨hrc, hrs, hfr, hlo, hws, hcw, -, hini, -⟩ := cb
  exact vx_back (bytes := bytes) (maxL := maxL) (ret := ret) hM hbl hrc hrs hfr hlo hws hcw (fun a' U hW => word_at hW (Or.inl (by first | rfl | simp [Cond.onTables, Cond.keeps, Cond.steady])) hini)
theorem vx_runV (S : CallFix p m c cc nL s args Ts own) (hM : vx_Met l y ws rm Pc Qc XC mc ms free) (cw : CallW R s args own C index y bytes maxL ret ws rm mc ms n) (hp : PreV s H C b Pc As)
    (hg : g.method = m) (hn : As.length = n) (hsize : g.locals.size = nL) (hstack : g.stack = As.reverse ++ .ref b :: rest) (hW : 2 * g.monitorRoom + (rest.map fun v => v.category).sum ≤ 8) (hdg : decode cc g.pc = .ok (.invokevirtual index, 3)) (hf : cells + mc ≤ R.cells ∧ slots + ms ≤ R.slots) :
    vx_Run p l e R s m args below meth c H locs cells slots mc ms g rest (Qc (Value.ref b :: As).toArray) XC free := by
  have hK : vx_Back l R p e below s args y 3 8 (PreOf R mc ms Pc) (PostOf Qc mc ms free) (vx_Post XC mc ms free) := vx_callBack cw.1 hM hp.1
  obtain ⟨⟨-, -, -, -, -, -, hcode, -, hy, hlen, hl⟩, hin, hse⟩ := cw
  obtain ⟨hx, hb, hml, ho, -⟩ := S
  obtain ⟨-, ⟨cellB, hcB, hoB, hclB⟩, hPc⟩ := hp
  intro T hT X
  rcases vx_callV X hx (C := C) (bytes := bytes) (maxL := maxL) (ret := ret) ho hl hin hse hcode hy hK (by rw [hT]; exact hcB) hoB hclB hg (hsize.trans hml.symm) (argsL := As) (rest := rest) (fun sig h => hn.trans (hlen sig h)) hstack hW (by rw [hb]; exact hdg)
    (fun vm₁ hW₁ => ⟨hf.1, hf.2, hPc (T.setVm vm₁) hT hW₁⟩) with ⟨v, vm₁, ⟨U', l2, c2, s2⟩, hW₁, X', ⟨g', mk, t, L, e1, e2, hq, h1, hL, h2, h3⟩, st⟩ | ⟨q, vm₁, ⟨U', l2, c2, s2⟩, hW₁, X', ⟨g', mk, t, L, E, ce, e1, e2, hq, hce, hcv, hcl, h1, hL, h2, h3⟩, st⟩
  · dsimp only [Pt.U, Pt.locs, Pt.cells, Pt.slots] at X' e1 e2 h1 h2 h3 st
    subst h1; subst h2; subst h3
    exact Or.inl ⟨v, (T.setVm vm₁).calling g' mk (Value.ref b :: As).toArray, t, U', L, hT, X', hL, e1, e2, hq, st⟩
  · dsimp only [Pt.U, Pt.locs, Pt.cells, Pt.slots] at X' e1 e2 h1 h2 h3 st hcl
    subst h1; subst h2; subst h3
    exact Or.inr ⟨q, (T.setVm vm₁).calling g' mk (Value.ref b :: As).toArray, t, U', L, E, ce, hT, X', hL, e1, e2, hq, hce, hcv, vx_cls hW₁ hcl, st⟩
theorem vx_runS (S : CallFix p m c cc nL s args Ts own) (hM : vx_Met l y ws rm Pc Qc XC mc ms free) (cw : CallB R s args own index y bytes maxL ret ws rm mc ms n ∧ (Cond.static y).before args s = true) (hp : PreS s H Pc As)
    (hg : g.method = m) (hn : As.length = n) (hsize : g.locals.size = nL) (hstack : g.stack = As.reverse ++ rest) (hW : 2 * g.monitorRoom + (rest.map fun v => v.category).sum ≤ 8) (hdg : decode cc g.pc = .ok (.invokestatic index, 3)) (hf : cells + mc ≤ R.cells ∧ slots + ms ≤ R.slots) :
    vx_Run p l e R s m args below meth c H locs cells slots mc ms g rest (Qc As.toArray) XC free := by
  have hK : vx_Back l R p e below s args y 3 8 (PreOf R mc ms Pc) (PostOf Qc mc ms free) (vx_Post XC mc ms free) := vx_callBack cw.1 hM hp.1
  obtain ⟨⟨-, -, -, -, -, -, hcode, hini, hy, hlen, hl⟩, hstt⟩ := cw
  obtain ⟨hx, hb, hml, ho, -⟩ := S
  intro T hT X
  rcases vx_callS X hx (bytes := bytes) (maxL := maxL) (ret := ret) ho hl hstt hini hcode hy hK hg (hsize.trans hml.symm) (argsL := As) (rest := rest) (fun sig h => hn.trans (hlen sig h)) hstack hW (by rw [hb]; exact hdg)
    (fun vm₁ hW₁ => ⟨hf.1, hf.2, hp.2 (T.setVm vm₁) hT hW₁⟩) with ⟨v, vm₁, ⟨U', l2, c2, s2⟩, hW₁, X', ⟨g', mk, t, L, e1, e2, hq, h1, hL, h2, h3⟩, st⟩ | ⟨q, vm₁, ⟨U', l2, c2, s2⟩, hW₁, X', ⟨g', mk, t, L, E, ce, e1, e2, hq, hce, hcv, hcl, h1, hL, h2, h3⟩, st⟩
  · dsimp only [Pt.U, Pt.locs, Pt.cells, Pt.slots] at X' e1 e2 h1 h2 h3 st
    subst h1; subst h2; subst h3
    exact Or.inl ⟨v, (T.setVm vm₁).calling g' mk As.toArray, t, U', L, hT, X', hL, e1, e2, hq, st⟩
  · dsimp only [Pt.U, Pt.locs, Pt.cells, Pt.slots] at X' e1 e2 h1 h2 h3 st hcl
    subst h1; subst h2; subst h3
    exact Or.inr ⟨q, (T.setVm vm₁).calling g' mk As.toArray, t, U', L, E, ce, hT, X', hL, e1, e2, hq, hce, hcv, vx_cls hW₁ hcl, st⟩
end Runs
section Rows
variable {p : Program} {l : Launch} {e : Env} {R : Room} {s : State} {m : MethodId} {args : Array Value} {below : List Frame} {meth : Method} {c : Code} {H : Heap} {locs : List Loc} {cells slots : Nat} {Q : State → Prop}
variable {mc ms : Nat} {free : Addr → Prop} {A0 A1 : Nat → Prop} {H0 : Heap} {a : Array Value} {pc : Nat} {ls : Array Slot} {st0 rest : List Value}
theorem vx_keep {st₀ t T' : State} {L : List Loc} (h0 : st₀.heap = H) (e1 : T'.heap = t.heap) (hS : va_S A0 H0 H locs) (hA : ∀ q, q < H.size → A1 q → A0 q) (hf : ∀ q, free q → A0 q) (hL : ∀ q ∈ L, free q.base) (hF : va_F A1 st₀ t) :
    H.size ≤ T'.heap.size ∧ (∀ q : Nat, q < H.size → ¬ A1 q → T'.heap[q]? = H[q]?) ∧ va_S A0 H0 T'.heap (locs ++ L) := by
  obtain ⟨hz, hk⟩ := hF
  rw [h0] at hz hk
  exact ⟨by rw [e1]; exact hz, fun q h1 h2 => by rw [e1]; exact hk q h1 h2,
    ⟨Nat.le_trans hS.1 (by rw [e1]; exact hz), fun q h1 h2 => by rw [e1, hk q (Nat.lt_of_lt_of_le h1 hS.1) (fun z => h2 (hA q (Nat.lt_of_lt_of_le h1 hS.1) z))]; exact hS.2.1 q h1 h2, fun q hq => by
      rcases List.mem_append.mp hq with h | h
      · exact hS.2.2 q h
      · exact hf _ (hL q h)⟩⟩
theorem vx_calli {S SX : Type} {post : Int32 → S → Prop} {px : SX → Prop} {B : S → State → Prop} {BX : String → SX → State → Prop} {AX : Nat → Prop} (hr : vx_Run p l e R s m args below meth c H locs cells slots mc ms (F0 m pc ls st0) rest (va_Qi post B A1 a) (vx_X px BX AX) free) (hS : va_S A0 H0 H locs) (hA : ∀ q, q < H.size → A1 q → A0 q) (hf : ∀ q, free q → A0 q) (hAX : ∀ q, q < H.size → AX q → A0 q)
    (kx : ∀ (E : String) (ce : Cell) (q9 : Addr) (u : SX) (t : State) (H1 : Heap) (locs1 : List Loc), t.heap = H1 → s.vm.Alike t.vm → px u → BX E u t → H.size ≤ H1.size → (∀ q : Nat, q < H.size → ¬ AX q → H1[q]? = H[q]?) → va_S A0 H0 H1 locs1 → H1[q9]? = some ce → ce.vm = .none → s.vm.findClass E = some ce.cls → vx_W p l e R s m args below meth c H1 locs1 (cells + mc) (slots + ms) Q (F0 m pc ls rest) q9)
    (kk : ∀ (r : Int32) (u : S) (t : State) (H1 : Heap) (locs1 : List Loc), t.heap = H1 → s.vm.Alike t.vm → post r u → B u t → H.size ≤ H1.size → (∀ q : Nat, q < H.size → ¬ A1 q → H1[q]? = H[q]?) → va_S A0 H0 H1 locs1 → W p l e R s m args below meth c H1 locs1 (cells + mc) (slots + ms) Q (F0 m (pc + 3) ls (.int r :: rest))) : W p l e R s m args below meth c H locs cells slots Q (F0 m pc ls st0) := by
  intro T hT X
  rcases hr T hT X with ⟨v, st₀, t, T', L, h0, X', hL, e1, e2, ⟨⟨r, u, hv, hp, hb⟩, hF⟩, st⟩ | ⟨q, st₀, t, T', L, E, ce, h0, X', hL, e1, e2, ⟨u, hp, hb, hF⟩, hce, hcv, hcl, st⟩
  · cases hv
    obtain ⟨k1, k2, k3⟩ := vx_keep h0 e1 hS hA hf hL hF
    obtain ⟨t2, a1, b1⟩ := kk r u t T'.heap (locs ++ L) e1.symm (by rw [← e2]; exact X'.warmed.alike) hp hb k1 k2 k3 T' rfl X'
    exact ⟨t2, st t2 a1, b1⟩
  · obtain ⟨k1, k2, k3⟩ := vx_keep h0 e1 hS hAX hf hL hF
    obtain ⟨t2, a1, b1⟩ := kx E ce q u t T'.heap (locs ++ L) e1.symm (by rw [← e2]; exact X'.warmed.alike) hp hb k1 k2 k3 (by rw [e1]; exact hce) hcv hcl T' rfl X'
    exact ⟨t2, st.trans a1, b1⟩
theorem vx_calll {S SX : Type} {post : Int64 → S → Prop} {px : SX → Prop} {B : S → State → Prop} {BX : String → SX → State → Prop} {AX : Nat → Prop} (hr : vx_Run p l e R s m args below meth c H locs cells slots mc ms (F0 m pc ls st0) rest (va_Ql post B A1 a) (vx_X px BX AX) free) (hS : va_S A0 H0 H locs) (hA : ∀ q, q < H.size → A1 q → A0 q) (hf : ∀ q, free q → A0 q) (hAX : ∀ q, q < H.size → AX q → A0 q)
    (kx : ∀ (E : String) (ce : Cell) (q9 : Addr) (u : SX) (t : State) (H1 : Heap) (locs1 : List Loc), t.heap = H1 → s.vm.Alike t.vm → px u → BX E u t → H.size ≤ H1.size → (∀ q : Nat, q < H.size → ¬ AX q → H1[q]? = H[q]?) → va_S A0 H0 H1 locs1 → H1[q9]? = some ce → ce.vm = .none → s.vm.findClass E = some ce.cls → vx_W p l e R s m args below meth c H1 locs1 (cells + mc) (slots + ms) Q (F0 m pc ls rest) q9)
    (kk : ∀ (r : Int64) (u : S) (t : State) (H1 : Heap) (locs1 : List Loc), t.heap = H1 → s.vm.Alike t.vm → post r u → B u t → H.size ≤ H1.size → (∀ q : Nat, q < H.size → ¬ A1 q → H1[q]? = H[q]?) → va_S A0 H0 H1 locs1 → W p l e R s m args below meth c H1 locs1 (cells + mc) (slots + ms) Q (F0 m (pc + 3) ls (.long r :: rest))) : W p l e R s m args below meth c H locs cells slots Q (F0 m pc ls st0) := by
  intro T hT X
  rcases hr T hT X with ⟨v, st₀, t, T', L, h0, X', hL, e1, e2, ⟨⟨r, u, hv, hp, hb⟩, hF⟩, st⟩ | ⟨q, st₀, t, T', L, E, ce, h0, X', hL, e1, e2, ⟨u, hp, hb, hF⟩, hce, hcv, hcl, st⟩
  · cases hv
    obtain ⟨k1, k2, k3⟩ := vx_keep h0 e1 hS hA hf hL hF
    obtain ⟨t2, a1, b1⟩ := kk r u t T'.heap (locs ++ L) e1.symm (by rw [← e2]; exact X'.warmed.alike) hp hb k1 k2 k3 T' rfl X'
    exact ⟨t2, st t2 a1, b1⟩
  · obtain ⟨k1, k2, k3⟩ := vx_keep h0 e1 hS hAX hf hL hF
    obtain ⟨t2, a1, b1⟩ := kx E ce q u t T'.heap (locs ++ L) e1.symm (by rw [← e2]; exact X'.warmed.alike) hp hb k1 k2 k3 (by rw [e1]; exact hce) hcv hcl T' rfl X'
    exact ⟨t2, st.trans a1, b1⟩
theorem vx_callf {S SX : Type} {post : UInt32 → S → Prop} {px : SX → Prop} {B : S → State → Prop} {BX : String → SX → State → Prop} {AX : Nat → Prop} (hr : vx_Run p l e R s m args below meth c H locs cells slots mc ms (F0 m pc ls st0) rest (va_Qf post B A1 a) (vx_X px BX AX) free) (hS : va_S A0 H0 H locs) (hA : ∀ q, q < H.size → A1 q → A0 q) (hf : ∀ q, free q → A0 q) (hAX : ∀ q, q < H.size → AX q → A0 q)
    (kx : ∀ (E : String) (ce : Cell) (q9 : Addr) (u : SX) (t : State) (H1 : Heap) (locs1 : List Loc), t.heap = H1 → s.vm.Alike t.vm → px u → BX E u t → H.size ≤ H1.size → (∀ q : Nat, q < H.size → ¬ AX q → H1[q]? = H[q]?) → va_S A0 H0 H1 locs1 → H1[q9]? = some ce → ce.vm = .none → s.vm.findClass E = some ce.cls → vx_W p l e R s m args below meth c H1 locs1 (cells + mc) (slots + ms) Q (F0 m pc ls rest) q9)
    (kk : ∀ (r : UInt32) (u : S) (t : State) (H1 : Heap) (locs1 : List Loc), t.heap = H1 → s.vm.Alike t.vm → post r u → B u t → H.size ≤ H1.size → (∀ q : Nat, q < H.size → ¬ A1 q → H1[q]? = H[q]?) → va_S A0 H0 H1 locs1 → W p l e R s m args below meth c H1 locs1 (cells + mc) (slots + ms) Q (F0 m (pc + 3) ls (.float r :: rest))) : W p l e R s m args below meth c H locs cells slots Q (F0 m pc ls st0) := by
  intro T hT X
  rcases hr T hT X with ⟨v, st₀, t, T', L, h0, X', hL, e1, e2, ⟨⟨r, u, hv, hp, hb⟩, hF⟩, st⟩ | ⟨q, st₀, t, T', L, E, ce, h0, X', hL, e1, e2, ⟨u, hp, hb, hF⟩, hce, hcv, hcl, st⟩
  · cases hv
    obtain ⟨k1, k2, k3⟩ := vx_keep h0 e1 hS hA hf hL hF
    obtain ⟨t2, a1, b1⟩ := kk r u t T'.heap (locs ++ L) e1.symm (by rw [← e2]; exact X'.warmed.alike) hp hb k1 k2 k3 T' rfl X'
    exact ⟨t2, st t2 a1, b1⟩
  · obtain ⟨k1, k2, k3⟩ := vx_keep h0 e1 hS hAX hf hL hF
    obtain ⟨t2, a1, b1⟩ := kx E ce q u t T'.heap (locs ++ L) e1.symm (by rw [← e2]; exact X'.warmed.alike) hp hb k1 k2 k3 (by rw [e1]; exact hce) hcv hcl T' rfl X'
    exact ⟨t2, st.trans a1, b1⟩
theorem vx_calld {S SX : Type} {post : UInt64 → S → Prop} {px : SX → Prop} {B : S → State → Prop} {BX : String → SX → State → Prop} {AX : Nat → Prop} (hr : vx_Run p l e R s m args below meth c H locs cells slots mc ms (F0 m pc ls st0) rest (va_Qd post B A1 a) (vx_X px BX AX) free) (hS : va_S A0 H0 H locs) (hA : ∀ q, q < H.size → A1 q → A0 q) (hf : ∀ q, free q → A0 q) (hAX : ∀ q, q < H.size → AX q → A0 q)
    (kx : ∀ (E : String) (ce : Cell) (q9 : Addr) (u : SX) (t : State) (H1 : Heap) (locs1 : List Loc), t.heap = H1 → s.vm.Alike t.vm → px u → BX E u t → H.size ≤ H1.size → (∀ q : Nat, q < H.size → ¬ AX q → H1[q]? = H[q]?) → va_S A0 H0 H1 locs1 → H1[q9]? = some ce → ce.vm = .none → s.vm.findClass E = some ce.cls → vx_W p l e R s m args below meth c H1 locs1 (cells + mc) (slots + ms) Q (F0 m pc ls rest) q9)
    (kk : ∀ (r : UInt64) (u : S) (t : State) (H1 : Heap) (locs1 : List Loc), t.heap = H1 → s.vm.Alike t.vm → post r u → B u t → H.size ≤ H1.size → (∀ q : Nat, q < H.size → ¬ A1 q → H1[q]? = H[q]?) → va_S A0 H0 H1 locs1 → W p l e R s m args below meth c H1 locs1 (cells + mc) (slots + ms) Q (F0 m (pc + 3) ls (.double r :: rest))) : W p l e R s m args below meth c H locs cells slots Q (F0 m pc ls st0) := by
  intro T hT X
  rcases hr T hT X with ⟨v, st₀, t, T', L, h0, X', hL, e1, e2, ⟨⟨r, u, hv, hp, hb⟩, hF⟩, st⟩ | ⟨q, st₀, t, T', L, E, ce, h0, X', hL, e1, e2, ⟨u, hp, hb, hF⟩, hce, hcv, hcl, st⟩
  · cases hv
    obtain ⟨k1, k2, k3⟩ := vx_keep h0 e1 hS hA hf hL hF
    obtain ⟨t2, a1, b1⟩ := kk r u t T'.heap (locs ++ L) e1.symm (by rw [← e2]; exact X'.warmed.alike) hp hb k1 k2 k3 T' rfl X'
    exact ⟨t2, st t2 a1, b1⟩
  · obtain ⟨k1, k2, k3⟩ := vx_keep h0 e1 hS hAX hf hL hF
    obtain ⟨t2, a1, b1⟩ := kx E ce q u t T'.heap (locs ++ L) e1.symm (by rw [← e2]; exact X'.warmed.alike) hp hb k1 k2 k3 (by rw [e1]; exact hce) hcv hcl T' rfl X'
    exact ⟨t2, st.trans a1, b1⟩
theorem vx_callv {S SX : Type} {post : S → Prop} {px : SX → Prop} {B : S → State → Prop} {BX : String → SX → State → Prop} {AX : Nat → Prop} (hr : vx_Run p l e R s m args below meth c H locs cells slots mc ms (F0 m pc ls st0) rest (va_Qv post B A1 a) (vx_X px BX AX) free) (hS : va_S A0 H0 H locs) (hA : ∀ q, q < H.size → A1 q → A0 q) (hf : ∀ q, free q → A0 q) (hAX : ∀ q, q < H.size → AX q → A0 q)
    (kx : ∀ (E : String) (ce : Cell) (q9 : Addr) (u : SX) (t : State) (H1 : Heap) (locs1 : List Loc), t.heap = H1 → s.vm.Alike t.vm → px u → BX E u t → H.size ≤ H1.size → (∀ q : Nat, q < H.size → ¬ AX q → H1[q]? = H[q]?) → va_S A0 H0 H1 locs1 → H1[q9]? = some ce → ce.vm = .none → s.vm.findClass E = some ce.cls → vx_W p l e R s m args below meth c H1 locs1 (cells + mc) (slots + ms) Q (F0 m pc ls rest) q9)
    (kk : ∀ (u : S) (t : State) (H1 : Heap) (locs1 : List Loc), t.heap = H1 → s.vm.Alike t.vm → post u → B u t → H.size ≤ H1.size → (∀ q : Nat, q < H.size → ¬ A1 q → H1[q]? = H[q]?) → va_S A0 H0 H1 locs1 → W p l e R s m args below meth c H1 locs1 (cells + mc) (slots + ms) Q (F0 m (pc + 3) ls (rest))) : W p l e R s m args below meth c H locs cells slots Q (F0 m pc ls st0) := by
  intro T hT X
  rcases hr T hT X with ⟨v, st₀, t, T', L, h0, X', hL, e1, e2, ⟨⟨u, hv, hp, hb⟩, hF⟩, st⟩ | ⟨q, st₀, t, T', L, E, ce, h0, X', hL, e1, e2, ⟨u, hp, hb, hF⟩, hce, hcv, hcl, st⟩
  · cases hv
    obtain ⟨k1, k2, k3⟩ := vx_keep h0 e1 hS hA hf hL hF
    obtain ⟨t2, a1, b1⟩ := kk u t T'.heap (locs ++ L) e1.symm (by rw [← e2]; exact X'.warmed.alike) hp hb k1 k2 k3 T' rfl X'
    exact ⟨t2, st t2 a1, b1⟩
  · obtain ⟨k1, k2, k3⟩ := vx_keep h0 e1 hS hAX hf hL hF
    obtain ⟨t2, a1, b1⟩ := kx E ce q u t T'.heap (locs ++ L) e1.symm (by rw [← e2]; exact X'.warmed.alike) hp hb k1 k2 k3 (by rw [e1]; exact hce) hcv hcl T' rfl X'
    exact ⟨t2, st.trans a1, b1⟩
/-- caught by the row x of this method's table; the rows ahead don't take it -/
theorem vx_catch {own name : String} {E : String} {ce : Cell} {q : Addr} (hown : s.vm.findClass own = some m.cls) (pre : List ExceptionTableEntry) (x : ExceptionTableEntry) (suf : List ExceptionTableEntry) (hsplit : c.exceptionTable.toList = pre ++ x :: suf)
    (hpass : ∀ z ∈ pre, covers z pc = false ∨ (z.catchType ≠ 0 ∧ ∃ nm : String, (Cond.classLink own z.catchType nm).before args s = true ∧ va_Nc E nm s)) (hx : covers x pc = true) (h0 : x.catchType ≠ 0)
    (hlink : (Cond.classLink own x.catchType name).before args s = true) (hcast : (Cond.castable E name).before args s = true) (hcell : H[q]? = some ce) (hv : ce.vm = .none) (hcl : s.vm.findClass E = some ce.cls)
    (kk : W p l e R s m args below meth c H locs cells slots Q (F0 m x.handlerPc ls [.ref q])) : vx_W p l e R s m args below meth c H locs cells slots Q (F0 m pc ls rest) q := by
  intro T hT X
  have hpl : e.platform.magicAccessors = ({} : Platform).magicAccessors := by rw [X.admits.platform]
  obtain ⟨c3, c4, hc3, hc4, hasg⟩ := Cond.castable_spec hcast
  cases Option.some.inj (hc3.symm.trans hcl)
  obtain ⟨c5, hc5, hcl5⟩ := Cond.classLink_spec hown hlink e.platform hpl
  cases Option.some.inj (hc4.symm.trans hc5)
  obtain ⟨vm', X', st⟩ := X.thenCaughtThrough q (g := F0 m pc ls rest) rfl (Steps.refl _) (by rw [hT]; exact hcell) (by rw [hv]; rfl) (by obtain ⟨k9, h9, -⟩ := Vm.findClass_spec hcl; exact ⟨k9, h9⟩) pre x suf hsplit
    (fun z hz => by
      rcases hpass z hz with h | ⟨hz0, nm, hl1, hn1⟩
      · exact Or.inl h
      · obtain ⟨c6, hc6, hcl6⟩ := Cond.classLink_spec hown hl1 e.platform hpl
        obtain ⟨a8, b8, h1, h2, h3⟩ := hn1
        cases Option.some.inj (h1.symm.trans hcl)
        cases Option.some.inj (h2.symm.trans hc6)
        exact Or.inr ⟨hz0, _, hcl6, h3⟩) hx (Or.inr ⟨h0, c4, hcl5, hasg⟩)
  obtain ⟨t, a1, b1⟩ := kk (T.setVm vm') hT X'
  exact ⟨t, st.trans a1, b1⟩
end Rows
section Ends
variable {p : Program} {l : Launch} {e : Env} {R : Room} {s : State} {m : MethodId} {args : Array Value} {below : List Frame} {meth : Method} {c : Code} {H : Heap} {locs : List Loc} {cells slots : Nat} {Q : State → Prop}
variable {mc ms : Nat} {free : Addr → Prop} {A0 A1 : Nat → Prop} {H0 : Heap} {a : Array Value} {ls : Array Slot} {st0 rest : List Value}
variable {Qc : Array Value → State → Outcome → State → Prop} {XC : String → State → State → Prop}
/-- what a body that may throw owes at its end -/
def vx_MQ (below : List Frame) (Qc : Array Value → State → Outcome → State → Prop) (XC : String → State → State → Prop) (a : Array Value) (s : State) (mc ms : Nat) (free : Addr → Prop) : State → Prop := fun t =>
  ∃ o, t.status = .running ∧ Ended t below o ∧ vx_Q Qc XC mc ms free a s o t
theorem vx_ret {g : JFrame} {mc ms : Nat} (k : W p l e R s m args below meth c H locs cells slots (MQ below Qc args s mc ms free) g) : W p l e R s m args below meth c H locs cells slots (vx_MQ below Qc XC args s mc ms free) g := by
  intro T hT X
  obtain ⟨t, a1, o, b1, b2, b3, b4⟩ := k T hT X
  exact ⟨t, a1, o, b1, b2, Or.inl ⟨b3, b4⟩⟩
/-- not caught here: it goes on to the caller -/
theorem vx_widen {g : JFrame} {q : Addr} {k n : Nat} (h1 : cells ≤ k) (h2 : slots ≤ n) (kk : vx_W p l e R s m args below meth c H locs k n Q g q) : vx_W p l e R s m args below meth c H locs cells slots Q g q := fun T hT X => kk T hT (stand_widen X h1 h2)
theorem vx_out {pc : Nat} {E : String} {ce : Cell} {q : Addr} {mc ms : Nat} (hout : ∀ x ∈ c.exceptionTable.toList, covers x pc = false) (hlocks : meth.locks = false) (hcell : H[q]? = some ce) (hv : ce.vm = .none) (hcl : s.vm.findClass E = some ce.cls)
    (hx : ∀ t : State, t.heap = H → s.vm.Alike t.vm → XC E s t) (hf : ∀ z ∈ locs, free z.base) (hc : cells ≤ mc) (hs : slots ≤ ms) :
    vx_W p l e R s m args below meth c H locs cells slots (vx_MQ below Qc XC args s mc ms free) (F0 m pc ls rest) q := by
  intro T hT X
  obtain ⟨st1, hrun, hend, hW, hsm⟩ := X.leaveThrown q (g := F0 m pc ls rest) rfl rfl rfl hout hlocks
  have hcell9 : (T.setFrames (.throwing q :: below)).heap[q]? = some ce := by
    show T.heap[q]? = some ce
    rw [hT]; exact hcell
  exact ⟨_, st1, .threw q, hrun, hend, Or.inr ⟨q, rfl, E, ce, locs, hx _ hT hW.alike, hcell9, hv, hcl, hW, hsm.mono hc hs, hf⟩⟩
theorem vx_frame {U : State} {k n : Nat} (h : s.sameButNew ({ U with vm := s.vm } : State) locs k n) : s.heap.size ≤ U.heap.size ∧ ∀ q : Nat, q < s.heap.size → (∀ z ∈ locs, z.base ≠ q) → U.heap[q]? = s.heap[q]? := by
  obtain ⟨-, h2, -, -, -, h6⟩ := h
  refine ⟨h2, fun q hq hz => ?_⟩
  obtain ⟨c9, e1, e2, e3, e4⟩ := h6 q _ (Array.getElem?_eq_getElem hq)
  have hs : c9.slots = (s.heap[q]).slots := Array.ext_getElem? fun i => e4 i fun hm => hz _ hm rfl
  have h9 : c9 = s.heap[q] := by
    rw [hs] at e2
    exact e2
  have e5 : U.heap[q]? = some c9 := e1
  rw [e5, h9, Array.getElem?_eq_getElem hq]
/-- the words of a throw but the four that speak of the heap -/
def vx_no (w : Cond) : Bool := decide (w ≠ .isRef (.static Bundle.tN "UNASSIGNED_STACK" Bundle.steD)) && decide (w ≠ .isRef (.static Bundle.tN "SUPPRESSED_SENTINEL" Bundle.listD)) && decide (w ≠ .laysStatic Bundle.tN "UNASSIGNED_STACK" Bundle.steD) && decide (w ≠ .laysStatic Bundle.tN "SUPPRESSED_SENTINEL" Bundle.listD)
def vx_at0 (own : String) (ic : Nat) (X : String) (names : List String) : List Cond := (Bundle.ownAtoms0 own ic X names).filter vx_no
def vx_atS (own : String) (ic : Nat) (X : String) (names : List String) : List Cond := (Bundle.ownAtoms own ic X names).filter vx_no
/-- a word that the tables alone decide, or a good one -/
def vx_ot (w : Cond) : Bool := w.onTables || goodWord w
theorem vx_ot_at {args a' : Array Value} {s U : State} {w : Cond} (hW : s.WarmedH U.vm) (hvm : s.vm = U.vm) (hg : vx_ot w = true) (h : w.before args s = true) : w.before a' U = true := by
  simp only [vx_ot, Bool.or_eq_true] at hg
  rcases hg with hg | hg
  · exact va_tabs hg hvm h
  · exact word_at hW (good_of_word hg) h
/-- a list's words: the good ones out of the method's own list, the others by premises of their own -/
theorem vx_hat {args : Array Value} {s : State} {L B : List Cond} (h1 : ∀ w ∈ L.filter goodWord, w.before args s = true) (h2 : ∀ w ∈ L.filter (fun w => !goodWord w), w ∈ B) (h3 : ∀ w ∈ B, w.before args s = true) : ∀ w ∈ L, w.before args s = true := by
  intro w hw
  by_cases g : goodWord w = true
  · exact h1 w (List.mem_filter.mpr ⟨hw, g⟩)
  · refine h3 w (h2 w (List.mem_filter.mpr ⟨hw, ?_⟩))
    show (!goodWord w) = true
    cases hgw : goodWord w
    · rfl
    · exact absurd hgw g
theorem vx_c {args : Array Value} {s : State} {w : Cond} {B : List Cond} (h : w.before args s = true) (t : ∀ w ∈ B, w.before args s = true) : ∀ w' ∈ w :: B, w'.before args s = true := fun w' h' => (List.mem_cons.mp h').elim (fun e => by rw [e]; exact h) (t w')
theorem vx_n {args : Array Value} {s : State} : ∀ w ∈ ([] : List Cond), w.before args s = true := fun _ h => nomatch h
theorem vx_own {args : Array Value} {s : State} {L : List Cond} (h1 : ∀ w ∈ L.filter vx_no, w.before args s = true)
    (hU : (Cond.isRef (.static Bundle.tN "UNASSIGNED_STACK" Bundle.steD)).before args s = true) (hN : (Cond.isRef (.static Bundle.tN "SUPPRESSED_SENTINEL" Bundle.listD)).before args s = true)
    (lU : (Cond.laysStatic Bundle.tN "UNASSIGNED_STACK" Bundle.steD).before args s = true) (lN : (Cond.laysStatic Bundle.tN "SUPPRESSED_SENTINEL" Bundle.listD).before args s = true) : ∀ w ∈ L, w.before args s = true := by
  intro w hw
  by_cases e1 : w = .isRef (.static Bundle.tN "UNASSIGNED_STACK" Bundle.steD)
  · rw [e1]; exact hU
  · by_cases e2 : w = .isRef (.static Bundle.tN "SUPPRESSED_SENTINEL" Bundle.listD)
    · rw [e2]; exact hN
    · by_cases e3 : w = .laysStatic Bundle.tN "UNASSIGNED_STACK" Bundle.steD
      · rw [e3]; exact lU
      · by_cases e4 : w = .laysStatic Bundle.tN "SUPPRESSED_SENTINEL" Bundle.listD
        · rw [e4]; exact lN
        · exact h1 w (List.mem_filter.mpr ⟨hw, by unfold vx_no; rw [decide_eq_true e1, decide_eq_true e2, decide_eq_true e3, decide_eq_true e4]; rfl⟩)
/-- where a static field lies, its class's statics cell in H -/
def vx_L (C n d : String) (A : Nat → Prop) (U : State) (H : Heap) : Prop := ∃ (c : ClassId) (k : Class) (i : Nat) (f : Field) (a : Nat) (cell : Cell), U.vm.findClass C = some c ∧ U.fieldFound? C n d = some (c, k, i, f) ∧ f.isStatic = true ∧ k.statics = some a ∧ H[a]? = some cell ∧ cell.vm.isStatics = true ∧ cell.cls = c ∧ f.slot < cell.slots.size ∧ k.staticTypes[f.slot]? = some f.type ∧ ¬ A a
theorem vx_L.moved {C n d : String} {A : Nat → Prop} {u U : State} {H : Heap} (hvm : u.vm.Alike U.vm) (h : vx_L C n d A u H) : vx_L C n d A U H := by
  obtain ⟨c, k, i, f, a, cell, h1, h2, h3, h4, h5, h6, h7, h8, h9, h10⟩ := h
  obtain ⟨k', hi', he⟩ := State.fieldFound?_setVm hvm h2
  exact ⟨c, k', i, f, a, cell, by rw [hvm.findClass]; exact h1, hi', h3, by rw [he]; exact h4, h5, h6, h7, h8, by rw [he]; exact h9, h10⟩
theorem vx_L.kept {C n d : String} {A : Nat → Prop} {U : State} {H H1 : Heap} (h : vx_L C n d A U H) (hq : ∀ a : Nat, a < H.size → ¬ A a → H1[a]? = H[a]?) : vx_L C n d A U H1 := by
  obtain ⟨c, k, i, f, a, cell, h1, h2, h3, h4, h5, h6, h7, h8, h9, h10⟩ := h
  exact ⟨c, k, i, f, a, cell, h1, h2, h3, h4, by rw [hq a (Array.getElem?_eq_some_iff.mp h5).1 h10]; exact h5, h6, h7, h8, h9, h10⟩
theorem vx_L.narrow {C n d : String} {A B : Nat → Prop} {U : State} {H : Heap} (h : vx_L C n d A U H) (hAB : ∀ q, B q → A q) : vx_L C n d B U H := by
  obtain ⟨c, k, i, f, a, cell, h1, h2, h3, h4, h5, h6, h7, h8, h9, h10⟩ := h
  exact ⟨c, k, i, f, a, cell, h1, h2, h3, h4, h5, h6, h7, h8, h9, fun z => h10 (hAB _ z)⟩
theorem vx_L.word {C n d : String} {A : Nat → Prop} {s : State} {args : Array Value} (h : vx_L C n d A s s.heap) : (Cond.laysStatic C n d).before args s = true := by
  obtain ⟨c, k, i, f, a, cell, h1, h2, h3, h4, h5, h6, h7, h8, h9, -⟩ := h
  show (Cond.laysStatic C n d).holds args s none s [] = true
  exact Cond.laysStatic_of h1 h2 h3 h4 h5 h6 h7 h8 h9
/-- .. and what it holds: null or some reference -/
def vx_Zq (C n d : String) (A : Nat → Prop) (U : State) (H : Heap) : Prop := va_Zq C n d A U H ∧ vx_L C n d A U H
theorem vx_Zq.moved {C n d : String} {A : Nat → Prop} {u U : State} {H : Heap} (hvm : u.vm.Alike U.vm) (h : vx_Zq C n d A u H) : vx_Zq C n d A U H := ⟨va_Zq.moved hvm h.1, vx_L.moved hvm h.2⟩
theorem vx_Zq.kept {C n d : String} {A : Nat → Prop} {U : State} {H H1 : Heap} (h : vx_Zq C n d A U H) (hq : ∀ a : Nat, a < H.size → ¬ A a → H1[a]? = H[a]?) : vx_Zq C n d A U H1 := ⟨va_Zq.kept h.1 hq, vx_L.kept h.2 hq⟩
theorem vx_Zq.narrow {C n d : String} {A B : Nat → Prop} {U : State} {H : Heap} (h : vx_Zq C n d A U H) (hAB : ∀ q, B q → A q) : vx_Zq C n d B U H := ⟨va_Zq.narrow h.1 hAB, vx_L.narrow h.2 hAB⟩
theorem vx_Zqof {args : Array Value} {s : State} {C n d : String} {A : Nat → Prop} (hl : (Cond.laysStatic C n d).before args s = true) (hini : (Cond.initialized C).before args s = true) (h : (Cond.isRef (.static C n d)).before args s = true) (hA : ∀ a : Nat, a < s.heap.size → ¬ A a) : vx_Zq C n d A s s.heap := by
  refine ⟨va_Zqof hl hini h hA, ?_⟩
  obtain ⟨c, k, i, f, a, cell, h1, h2, h3, h4, h5, h6, h7, h8, h9⟩ := Cond.laysStatic_spec hl
  exact ⟨c, k, i, f, a, cell, h1, h2, h3, h4, h5, h6, h7, h8, h9, hA a (Array.getElem?_eq_some_iff.mp h5).1⟩
theorem vx_isRef {C n d : String} {v : Value} {A : Nat → Prop} {s : State} {args : Array Value} (h : va_Z C n d v A s s.heap) (hv : v.isRef = true) : (Cond.isRef (.static C n d)).before args s = true := by
  obtain ⟨cf, kf, fi, f, a, cell, h1, h2, h3, h4, h5, h6, h7, -⟩ := h
  have he : (Term.static C n d).eval args s none [] s = some v := by
    simp [Term.eval, State.fieldNamed?, h1, h2, h4, h5, h6, h7]
  simp only [Cond.before, Cond.holds, Cond.value, he]
  cases v <;> simp_all [Value.isRef]
theorem vx_isRefq {C n d : String} {A : Nat → Prop} {s : State} {args : Array Value} (h : va_Zq C n d A s s.heap) : (Cond.isRef (.static C n d)).before args s = true := by
  rcases h with h | ⟨t, h⟩
  · exact vx_isRef h rfl
  · exact vx_isRef h rfl
/-- the same frame, seen from here: as if the method were called anew in this heap -/
theorem vx_rebase {T : State} (X : Stand p l e R s m args below meth c T locs cells slots) {R' : Room} (hf : R'.frames ≤ R.frames) (hl : R'.locals ≤ R.locals) (hc : cells + R'.cells ≤ R.cells) (hs : slots + R'.slots ≤ R.slots) :
    Stand p l e R' ((T.setVm s.vm).setFrames (.invoking m args :: below)) m args below meth c T [] 0 0 := by
  have htop : (T.setVm s.vm).topJava?.isSome := X.here.top
  have hF : ((T.setVm s.vm).setFrames (.invoking m args :: below)).frames = .invoking m args :: below := State.frames_setFrames _ (State.cur_lt_of_top htop)
  obtain ⟨g₀, hg0⟩ := Option.isSome_iff_exists.mp htop
  obtain ⟨r, hr⟩ := State.topJava?_eq_some.mp hg0
  have hl9 : e.platform.stackLimits (T.setVm s.vm).me = e.platform.stackLimits s.me := X.limits
  have hb9 : (T.setVm s.vm).me.stackBytes = s.me.stackBytes := X.bytes
  refine ⟨X.admits, X.cas, X.clock, hF, ?_, X.hears, X.method, X.code, X.here, X.tail, X.warmed, ?_, ?_, ?_⟩
  · have h := X.room
    have hU : ((T.setVm s.vm).setFrames (.invoking m args :: below)).localsInUse = s.localsInUse := by
      rw [State.localsInUse_invoking hF (meth := meth) (c := c) X.method X.code, State.localsInUse_invoking X.frames X.method X.code]
    simp only [State.hasRoom, Bool.and_eq_true, decide_eq_true_eq] at h ⊢
    obtain ⟨⟨⟨⟨h1, h2, h3, h4, h5, h6⟩, h7⟩, h8⟩, h9⟩ := h
    rw [X.frames, List.length_cons] at h2 h3
    have q1 := X.heapSize
    have q2 := X.used
    simp only [hF, hU, List.length_cons, State.stackLimits_setFrames, State.stackBytes_setFrames, hl9, hb9]
    refine ⟨⟨⟨⟨by omega, by omega, by omega, by omega, by omega, h6⟩, ?_⟩, ?_⟩, X.book⟩
    · show T.heap.size + R'.cells ≤ e.platform.maxCells
      omega
    · show T.slotsUsed + R'.slots ≤ e.platform.maxSlots
      omega
  · rw [State.stackLimits_setFrames]; rfl
  · rw [State.stackBytes_setFrames]; rfl
  · refine ⟨?_, Nat.le_refl _, Nat.le_refl _, ?_, ?_, fun a c9 h9 => ⟨c9, h9, rfl, rfl, fun _ _ => rfl⟩⟩
    · obtain ⟨t, ht, -⟩ := State.frames_cons hr
      show T.setVm s.vm = { ((T.setVm s.vm).setFrames (.invoking m args :: below)).setFrames (T.setVm s.vm).frames with heap := T.heap, slotsUsed := T.slotsUsed }
      rw [State.setFrames_setFrames, State.setFrames_self ht]
      rfl
    · show T.slotsUsed = T.slotsUsed + ((T.heap.toList.drop T.heap.size).map (·.slots.size)).sum
      rw [List.drop_eq_nil_of_le (Nat.le_of_eq Array.length_toList)]
      rfl
    · show ((T.heap.toList.drop T.heap.size).map (·.slots.size)).sum ≤ 0
      rw [List.drop_eq_nil_of_le (Nat.le_of_eq Array.length_toList)]
      exact Nat.le_refl _
/-- 'throw new E()': new; dup; invokespecial; athrow -/
theorem vx_throw0 {cc : ByteArray} {pc : Nat} (hexec : p.tables.exec = Jvm.exec) (hb : c.code = cc) (hl : l.stackTraces = false) {own cls : String} {names : List String} {ik ic mc ms : Nat} {A : Nat → Prop}
    (hown : s.vm.findClass own = some m.cls) (hcls : Bundle.fit cls = true) (hnames : ∀ n ∈ names, Bundle.fit n = true)
    (hk : (Cond.classLink own ik cls).before args s = true) (hini : (Cond.initialized cls).before args s = true) (hat : ∀ w ∈ vx_at0 own ic cls names, w.before args s = true)
    (hgood : ∀ w ∈ Cond.classLink own ik cls :: Cond.initialized cls :: vx_at0 own ic cls names, vx_ot w = true)
    (hU : vx_Zq Bundle.tN "UNASSIGNED_STACK" Bundle.steD A s s.heap) (hN : vx_Zq Bundle.tN "SUPPRESSED_SENTINEL" Bundle.listD A s s.heap) (hS : va_S A s.heap H locs) (hsize : ls.size = c.maxLocals)
    (d0 : decode cc pc = .ok (.new ik, 3)) (d3 : decode cc (pc + 3) = .ok (.dup, 1)) (d4 : decode cc (pc + 4) = .ok (.invokespecial ic, 3)) (d7 : decode cc (pc + 7) = .ok (.athrow, 1))
    (hout : ∀ x ∈ c.exceptionTable.toList, covers x (pc + 7) = false)
    (hRframes : names.length + 3 < R.frames) (hRlocals : (rest.map fun v => v.category).sum + (13 * (names.length + 1) + 42) ≤ R.locals) (hRcells : cells + 1 ≤ R.cells) (hRslots : slots + 6 ≤ R.slots) (hlocks : meth.locks = false)
    (hx : ∀ t : State, s.vm.Alike t.vm → H.size ≤ t.heap.size → (∀ q : Nat, q < H.size → t.heap[q]? = H[q]?) → XC cls s t)
    (hf : ∀ z ∈ locs, free z.base) (hc : cells + 1 ≤ mc) (hs : slots + 6 ≤ ms) :
    W p l e R s m args below meth c H locs cells slots (vx_MQ below Qc XC args s mc ms free) (F0 m pc ls rest) := by
  intro T hT X
  have htr : e.platform.stackTraces = false := (show e.platform.stackTraces = l.stackTraces by rw [X.admits.platform]).trans hl
  have Y := vx_rebase X (R' := { frames := R.frames, locals := R.locals, cells := 1, slots := 6 }) (Nat.le_refl _) (Nat.le_refl _) hRcells hRslots
  obtain ⟨s', hA⟩ : ∃ z, z = (T.setVm s.vm).setFrames (.invoking m args :: below) := ⟨_, rfl⟩
  rw [← hA] at Y
  have hvm : s'.vm = s.vm := by rw [hA]; rfl
  have hhp : s'.heap = H := by rw [hA]; exact hT
  have hW0 : s.WarmedH s'.vm := by rw [hvm]; exact State.WarmedH.refl s
  have hat' : ∀ w ∈ vx_at0 own ic cls names, w.before args s' = true := fun w hw => vx_ot_at hW0 hvm.symm (hgood w (List.mem_cons_of_mem _ (List.mem_cons_of_mem _ hw))) (hat w hw)
  have hk' : (Cond.classLink own ik cls).before args s' = true := vx_ot_at hW0 hvm.symm (hgood _ List.mem_cons_self) hk
  have hini' : (Cond.initialized cls).before args s' = true := vx_ot_at hW0 hvm.symm (hgood _ (List.mem_cons_of_mem _ List.mem_cons_self)) hini
  have hU' : vx_Zq Bundle.tN "UNASSIGNED_STACK" Bundle.steD A s' s'.heap := by rw [hhp]; exact vx_Zq.moved hW0.alike (hU.kept hS.2.1)
  have hN' : vx_Zq Bundle.tN "SUPPRESSED_SENTINEL" Bundle.listD A s' s'.heap := by rw [hhp]; exact vx_Zq.moved hW0.alike (hN.kept hS.2.1)
  have h : ∀ w ∈ Bundle.ownAtoms0 own ic cls names, w.before args s' = true := vx_own hat' (vx_isRefq hU'.1) (vx_isRefq hN'.1) hU'.2.word hN'.2.word
  have hown' : s'.vm.findClass own = some m.cls := by rw [hvm]; exact hown
  have hins : (Cond.instantiable cls 6).before args s' = true := h _ (by simp [Bundle.ownAtoms0])
  obtain ⟨vm₁, cX, kX, hfX, hkX, -, -, X₁, st1⟩ := Y.newCold hexec (own := own) (C := cls) (index := ik) (n := 6) hown' hk' hins hini'
    (g := F0 m pc ls rest) rfl (by rw [hb]; exact d0) (Nat.le_refl _) (Nat.le_refl _)
  generalize hT1 : (T.setVm vm₁).pushCell { cls := cX, slots := kX.instanceTypes.map defaultValue, vm := .none } = T1 at X₁ st1
  have hcat : (Value.ref T.heap.size).category = 1 := rfl
  have hcellA : T1.heap[T.heap.size]? = some (freshCell cX kX) := by rw [← hT1]; exact State.heap_pushCell_size _ _
  have d3' : decode c.code (pc + 3) = .ok (.dup, 1) := by rw [hb]; exact d3
  obtain ⟨U, hsteps, hrun, hend, hW, hsame, ce, hce, hO⟩ := X₁.ctorThrow0 hexec htr (own := own) (cls := cls) (names := names) (ic := ic) hown' hcls hnames h (fun x hx => nomatch hx) hfX hkX hcellA (by rw [hhp, hT]; exact Nat.le_refl _)
    (g := { method := m, pc := pc + 4, locals := ls, stack := .ref T.heap.size :: .ref T.heap.size :: rest, locked := none }) rfl hsize rfl rfl (rest := rest) rfl
    (by rw [hb]; exact d4) (by rw [hb]; exact d7) hout hRframes (by simp only [List.map_cons, List.sum_cons, hcat]; omega) hlocks
  obtain ⟨f1, f2⟩ := vx_frame hsame
  rw [hhp] at f1 f2
  have hWs : s.WarmedH U.vm := State.WarmedH.trans hW0 hW
  have hcl : s.vm.findClass cls = some ce.cls := by
    have h9 := hO.cls
    rw [hvm] at h9
    exact h9
  have hall : s.sameButNew ({ U with vm := s.vm } : State) locs mc ms := by
    subst hA
    obtain ⟨e1, e2⟩ := hsame
    rw [State.setFrames_setFrames] at e1
    have h2 : (T.setVm s.vm).sameButNew ({ U with vm := s.vm } : State) [] (0 + 1) (0 + 6) := ⟨e1, e2⟩
    have h3 := X.same.trans h2
    rw [List.append_nil] at h3
    exact h3.mono hc hs
  refine ⟨U, ?_, .threw T.heap.size, hrun, hend, Or.inr ⟨T.heap.size, rfl, cls, ce, locs, hx U hWs.alike f1 (fun q hq => f2 q hq (fun z hz => nomatch hz)), hce, hO.vm, hcl, hWs, hall, hf⟩⟩
  refine st1 _ ?_
  show Steps p.tables e below (T1.setTop { method := m, pc := pc + 3, locals := ls, stack := .ref T.heap.size :: rest, locked := none }) _
  jvm_step X₁.here [X₁.here.top, hexec, d3', Value.category]
  exact hsteps
/-- 'throw new E("text")': new; dup; ldc; invokespecial; athrow -/
theorem vx_throwS {cc : ByteArray} {pc : Nat} (hexec : p.tables.exec = Jvm.exec) (hb : c.code = cc) (hl : l.stackTraces = false) {own cls text : String} {names : List String} {ik is ic mc ms sa : Nat} {A : Nat → Prop}
    (hown : s.vm.findClass own = some m.cls) (hcls : Bundle.fit cls = true) (hnames : ∀ n ∈ names, Bundle.fit n = true)
    (hk : (Cond.classLink own ik cls).before args s = true) (hini : (Cond.initialized cls).before args s = true) (hstr : vk_R own is text sa s) (hat : ∀ w ∈ vx_atS own ic cls names, w.before args s = true)
    (hgood : ∀ w ∈ Cond.classLink own ik cls :: Cond.initialized cls :: vx_atS own ic cls names, vx_ot w = true)
    (hU : vx_Zq Bundle.tN "UNASSIGNED_STACK" Bundle.steD A s s.heap) (hN : vx_Zq Bundle.tN "SUPPRESSED_SENTINEL" Bundle.listD A s s.heap) (hS : va_S A s.heap H locs) (hsize : ls.size = c.maxLocals)
    (d0 : decode cc pc = .ok (.new ik, 3)) (d3 : decode cc (pc + 3) = .ok (.dup, 1)) (d4 : decode cc (pc + 4) = .ok (.ldc is, 2)) (d6 : decode cc (pc + 6) = .ok (.invokespecial ic, 3)) (d9 : decode cc (pc + 9) = .ok (.athrow, 1))
    (hout : ∀ x ∈ c.exceptionTable.toList, covers x (pc + 9) = false)
    (hRframes : names.length + 3 < R.frames) (hRlocals : (rest.map fun v => v.category).sum + (13 * (names.length + 1) + 43) ≤ R.locals) (hRcells : cells + 1 ≤ R.cells) (hRslots : slots + 6 ≤ R.slots) (hlocks : meth.locks = false)
    (hx : ∀ t : State, s.vm.Alike t.vm → H.size ≤ t.heap.size → (∀ q : Nat, q < H.size → t.heap[q]? = H[q]?) → XC cls s t)
    (hf : ∀ z ∈ locs, free z.base) (hc : cells + 1 ≤ mc) (hs : slots + 6 ≤ ms) :
    W p l e R s m args below meth c H locs cells slots (vx_MQ below Qc XC args s mc ms free) (F0 m pc ls rest) := by
  intro T hT X
  have htr : e.platform.stackTraces = false := (show e.platform.stackTraces = l.stackTraces by rw [X.admits.platform]).trans hl
  have Y := vx_rebase X (R' := { frames := R.frames, locals := R.locals, cells := 1, slots := 6 }) (Nat.le_refl _) (Nat.le_refl _) hRcells hRslots
  obtain ⟨s', hA⟩ : ∃ z, z = (T.setVm s.vm).setFrames (.invoking m args :: below) := ⟨_, rfl⟩
  rw [← hA] at Y
  have hvm : s'.vm = s.vm := by rw [hA]; rfl
  have hhp : s'.heap = H := by rw [hA]; exact hT
  have hW0 : s.WarmedH s'.vm := by rw [hvm]; exact State.WarmedH.refl s
  have hat' : ∀ w ∈ vx_atS own ic cls names, w.before args s' = true := fun w hw => vx_ot_at hW0 hvm.symm (hgood w (List.mem_cons_of_mem _ (List.mem_cons_of_mem _ hw))) (hat w hw)
  have hk' : (Cond.classLink own ik cls).before args s' = true := vx_ot_at hW0 hvm.symm (hgood _ List.mem_cons_self) hk
  have hini' : (Cond.initialized cls).before args s' = true := vx_ot_at hW0 hvm.symm (hgood _ (List.mem_cons_of_mem _ List.mem_cons_self)) hini
  have hU' : vx_Zq Bundle.tN "UNASSIGNED_STACK" Bundle.steD A s' s'.heap := by rw [hhp]; exact vx_Zq.moved hW0.alike (hU.kept hS.2.1)
  have hN' : vx_Zq Bundle.tN "SUPPRESSED_SENTINEL" Bundle.listD A s' s'.heap := by rw [hhp]; exact vx_Zq.moved hW0.alike (hN.kept hS.2.1)
  have h : ∀ w ∈ Bundle.ownAtoms own ic cls names, w.before args s' = true := vx_own hat' (vx_isRefq hU'.1) (vx_isRefq hN'.1) hU'.2.word hN'.2.word
  have hown' : s'.vm.findClass own = some m.cls := by rw [hvm]; exact hown
  have hins : (Cond.instantiable cls 6).before args s' = true := h _ (by simp [Bundle.ownAtoms])
  obtain ⟨vm₁, cX, kX, hfX, hkX, -, -, X₁, st1⟩ := Y.newCold hexec (own := own) (C := cls) (index := ik) (n := 6) hown' hk' hins hini'
    (g := F0 m pc ls rest) rfl (by rw [hb]; exact d0) (Nat.le_refl _) (Nat.le_refl _)
  generalize hT1 : (T.setVm vm₁).pushCell { cls := cX, slots := kX.instanceTypes.map defaultValue, vm := .none } = T1 at X₁ st1
  have hcat : (Value.ref T.heap.size).category = 1 := rfl
  have hcellA : T1.heap[T.heap.size]? = some (freshCell cX kX) := by rw [← hT1]; exact State.heap_pushCell_size _ _
  have d3' : decode c.code (pc + 3) = .ok (.dup, 1) := by rw [hb]; exact d3
  have d4' : decode c.code (pc + 4) = .ok (.ldc is, 2) := by rw [hb]; exact d4
  have hstr' : vk_R own is text sa s' := vk_R.warm hW0 hstr
  obtain ⟨U, hsteps, hrun, hend, hW, hsame, ce, hce, hO⟩ := X₁.ctorThrowS hexec htr (own := own) (cls := cls) (names := names) (ic := ic) hown' hcls hnames h (fun x hx => nomatch hx) hfX hkX hcellA (by rw [hhp, hT]; exact Nat.le_refl _) (msg := .ref sa) rfl
    (g := { method := m, pc := pc + 6, locals := ls, stack := .ref sa :: .ref T.heap.size :: .ref T.heap.size :: rest, locked := none }) rfl hsize rfl rfl (rest := rest) rfl
    (by rw [hb]; exact d6) (by rw [hb]; exact d9) hout hRframes (by simp only [List.map_cons, List.sum_cons, hcat]; omega) hlocks
  obtain ⟨f1, f2⟩ := vx_frame hsame
  rw [hhp] at f1 f2
  have hWs : s.WarmedH U.vm := State.WarmedH.trans hW0 hW
  have hcl : s.vm.findClass cls = some ce.cls := by
    have h9 := hO.cls
    rw [hvm] at h9
    exact h9
  have hall : s.sameButNew ({ U with vm := s.vm } : State) locs mc ms := by
    subst hA
    obtain ⟨e1, e2⟩ := hsame
    rw [State.setFrames_setFrames] at e1
    have h2 : (T.setVm s.vm).sameButNew ({ U with vm := s.vm } : State) [] (0 + 1) (0 + 6) := ⟨e1, e2⟩
    have h3 := X.same.trans h2
    rw [List.append_nil] at h3
    exact h3.mono hc hs
  refine ⟨U, ?_, .threw T.heap.size, hrun, hend, Or.inr ⟨T.heap.size, rfl, cls, ce, locs, hx U hWs.alike f1 (fun q hq => f2 q hq (fun z hz => nomatch hz)), hce, hO.vm, hcl, hWs, hall, hf⟩⟩
  refine st1 _ ?_
  show Steps p.tables e below (T1.setTop { method := m, pc := pc + 3, locals := ls, stack := .ref T.heap.size :: rest, locked := none }) _
  jvm_step X₁.here [X₁.here.top, hexec, d3', Value.category]
  exact X₁.ldcString hexec (own := own) (text := text) (index := is) (a := sa) hown' hstr'.1 hstr'.2
    (g := { method := m, pc := pc + 4, locals := ls, stack := .ref T.heap.size :: .ref T.heap.size :: rest, locked := none }) rfl d4' _ hsteps
/-- 'throw new E("text")', the text by a wide index -/
theorem vx_throwSW {cc : ByteArray} {pc : Nat} (hexec : p.tables.exec = Jvm.exec) (hb : c.code = cc) (hl : l.stackTraces = false) {own cls text : String} {names : List String} {ik is ic mc ms sa : Nat} {A : Nat → Prop}
    (hown : s.vm.findClass own = some m.cls) (hcls : Bundle.fit cls = true) (hnames : ∀ n ∈ names, Bundle.fit n = true)
    (hk : (Cond.classLink own ik cls).before args s = true) (hini : (Cond.initialized cls).before args s = true) (hstr : vk_R own is text sa s) (hat : ∀ w ∈ vx_atS own ic cls names, w.before args s = true)
    (hgood : ∀ w ∈ Cond.classLink own ik cls :: Cond.initialized cls :: vx_atS own ic cls names, vx_ot w = true)
    (hU : vx_Zq Bundle.tN "UNASSIGNED_STACK" Bundle.steD A s s.heap) (hN : vx_Zq Bundle.tN "SUPPRESSED_SENTINEL" Bundle.listD A s s.heap) (hS : va_S A s.heap H locs) (hsize : ls.size = c.maxLocals)
    (d0 : decode cc pc = .ok (.new ik, 3)) (d3 : decode cc (pc + 3) = .ok (.dup, 1)) (d4 : decode cc (pc + 4) = .ok (.ldc_w is, 3)) (d7 : decode cc (pc + 7) = .ok (.invokespecial ic, 3)) (d10 : decode cc (pc + 10) = .ok (.athrow, 1))
    (hout : ∀ x ∈ c.exceptionTable.toList, covers x (pc + 10) = false)
    (hRframes : names.length + 3 < R.frames) (hRlocals : (rest.map fun v => v.category).sum + (13 * (names.length + 1) + 43) ≤ R.locals) (hRcells : cells + 1 ≤ R.cells) (hRslots : slots + 6 ≤ R.slots) (hlocks : meth.locks = false)
    (hx : ∀ t : State, s.vm.Alike t.vm → H.size ≤ t.heap.size → (∀ q : Nat, q < H.size → t.heap[q]? = H[q]?) → XC cls s t)
    (hf : ∀ z ∈ locs, free z.base) (hc : cells + 1 ≤ mc) (hs : slots + 6 ≤ ms) :
    W p l e R s m args below meth c H locs cells slots (vx_MQ below Qc XC args s mc ms free) (F0 m pc ls rest) := by
  intro T hT X
  have htr : e.platform.stackTraces = false := (show e.platform.stackTraces = l.stackTraces by rw [X.admits.platform]).trans hl
  have Y := vx_rebase X (R' := { frames := R.frames, locals := R.locals, cells := 1, slots := 6 }) (Nat.le_refl _) (Nat.le_refl _) hRcells hRslots
  obtain ⟨s', hA⟩ : ∃ z, z = (T.setVm s.vm).setFrames (.invoking m args :: below) := ⟨_, rfl⟩
  rw [← hA] at Y
  have hvm : s'.vm = s.vm := by rw [hA]; rfl
  have hhp : s'.heap = H := by rw [hA]; exact hT
  have hW0 : s.WarmedH s'.vm := by rw [hvm]; exact State.WarmedH.refl s
  have hat' : ∀ w ∈ vx_atS own ic cls names, w.before args s' = true := fun w hw => vx_ot_at hW0 hvm.symm (hgood w (List.mem_cons_of_mem _ (List.mem_cons_of_mem _ hw))) (hat w hw)
  have hk' : (Cond.classLink own ik cls).before args s' = true := vx_ot_at hW0 hvm.symm (hgood _ List.mem_cons_self) hk
  have hini' : (Cond.initialized cls).before args s' = true := vx_ot_at hW0 hvm.symm (hgood _ (List.mem_cons_of_mem _ List.mem_cons_self)) hini
  have hU' : vx_Zq Bundle.tN "UNASSIGNED_STACK" Bundle.steD A s' s'.heap := by rw [hhp]; exact vx_Zq.moved hW0.alike (hU.kept hS.2.1)
  have hN' : vx_Zq Bundle.tN "SUPPRESSED_SENTINEL" Bundle.listD A s' s'.heap := by rw [hhp]; exact vx_Zq.moved hW0.alike (hN.kept hS.2.1)
  have h : ∀ w ∈ Bundle.ownAtoms own ic cls names, w.before args s' = true := vx_own hat' (vx_isRefq hU'.1) (vx_isRefq hN'.1) hU'.2.word hN'.2.word
  have hown' : s'.vm.findClass own = some m.cls := by rw [hvm]; exact hown
  have hins : (Cond.instantiable cls 6).before args s' = true := h _ (by simp [Bundle.ownAtoms])
  obtain ⟨vm₁, cX, kX, hfX, hkX, -, -, X₁, st1⟩ := Y.newCold hexec (own := own) (C := cls) (index := ik) (n := 6) hown' hk' hins hini'
    (g := F0 m pc ls rest) rfl (by rw [hb]; exact d0) (Nat.le_refl _) (Nat.le_refl _)
  generalize hT1 : (T.setVm vm₁).pushCell { cls := cX, slots := kX.instanceTypes.map defaultValue, vm := .none } = T1 at X₁ st1
  have hcat : (Value.ref T.heap.size).category = 1 := rfl
  have hcellA : T1.heap[T.heap.size]? = some (freshCell cX kX) := by rw [← hT1]; exact State.heap_pushCell_size _ _
  have d3' : decode c.code (pc + 3) = .ok (.dup, 1) := by rw [hb]; exact d3
  have d4' : decode c.code (pc + 4) = .ok (.ldc_w is, 3) := by rw [hb]; exact d4
  have hstr' : vk_R own is text sa s' := vk_R.warm hW0 hstr
  obtain ⟨U, hsteps, hrun, hend, hW, hsame, ce, hce, hO⟩ := X₁.ctorThrowS hexec htr (own := own) (cls := cls) (names := names) (ic := ic) hown' hcls hnames h (fun x hx => nomatch hx) hfX hkX hcellA (by rw [hhp, hT]; exact Nat.le_refl _) (msg := .ref sa) rfl
    (g := { method := m, pc := pc + 7, locals := ls, stack := .ref sa :: .ref T.heap.size :: .ref T.heap.size :: rest, locked := none }) rfl hsize rfl rfl (rest := rest) rfl
    (by rw [hb]; exact d7) (by rw [hb]; exact d10) hout hRframes (by simp only [List.map_cons, List.sum_cons, hcat]; omega) hlocks
  obtain ⟨f1, f2⟩ := vx_frame hsame
  rw [hhp] at f1 f2
  have hWs : s.WarmedH U.vm := State.WarmedH.trans hW0 hW
  have hcl : s.vm.findClass cls = some ce.cls := by
    have h9 := hO.cls
    rw [hvm] at h9
    exact h9
  have hall : s.sameButNew ({ U with vm := s.vm } : State) locs mc ms := by
    subst hA
    obtain ⟨e1, e2⟩ := hsame
    rw [State.setFrames_setFrames] at e1
    have h2 : (T.setVm s.vm).sameButNew ({ U with vm := s.vm } : State) [] (0 + 1) (0 + 6) := ⟨e1, e2⟩
    have h3 := X.same.trans h2
    rw [List.append_nil] at h3
    exact h3.mono hc hs
  refine ⟨U, ?_, .threw T.heap.size, hrun, hend, Or.inr ⟨T.heap.size, rfl, cls, ce, locs, hx U hWs.alike f1 (fun q hq => f2 q hq (fun z hz => nomatch hz)), hce, hO.vm, hcl, hWs, hall, hf⟩⟩
  refine st1 _ ?_
  show Steps p.tables e below (T1.setTop { method := m, pc := pc + 3, locals := ls, stack := .ref T.heap.size :: rest, locked := none }) _
  jvm_step X₁.here [X₁.here.top, hexec, d3', Value.category]
  exact X₁.ldcStringW hexec (own := own) (text := text) (index := is) (a := sa) hown' hstr'.1 hstr'.2
    (g := { method := m, pc := pc + 4, locals := ls, stack := .ref T.heap.size :: .ref T.heap.size :: rest, locked := none }) rfl d4' _ hsteps
end Ends
section Bodies
variable {l : Launch}
theorem vx_ofW {y : MethodName} {ws ws' : List Cond} {rm : Room} {Pc : Array Value → State → Prop} {Qc : Array Value → State → Outcome → State → Prop} {XC : String → State → State → Prop} {mc ms : Nat} {free : Addr → Prop} {cc : ByteArray} {maxL : Nat} {ret : Option FieldType}
    (hy : plainName y.cls = true) (hw : ws = Cond.code y cc maxL ret :: ws')
    (body : ∀ p e s m args below meth c s₁, BodyLoose p l y (headSpec ws rm) cc maxL ret e s m args below meth c s₁ → c.maxLocals = maxL → (∀ x ∈ c.exceptionTable.toList, False) → Pc args s →
      W p l e (headSpec ws rm).room s m args below meth c s.heap [] 0 0 (vx_MQ below Qc XC args s mc ms free) (entryFrame m args maxL)) : vx_Met l y ws rm Pc Qc XC mc ms free := by
  refine MetFree.of_bodyS (code := cc) (maxLocals := maxL) (ret := ret) hy ?_ ?_
  · intro args s m h hn
    obtain ⟨meth, c, h1, h2, h3, h4, h5, h6, -, -⟩ := Cond.code_spec hn (atoms_spec (ws := ws) h _ (by rw [hw]; exact List.mem_cons_self))
    exact ⟨meth, c, h1, h2, h3, h4, h5, h6⟩
  · intro p e s m args below meth c s₁ B hml hP _
    have hh0 : s₁.heap = s.heap := by rw [B.state]; rfl
    have ht : ∀ x ∈ c.exceptionTable.toList, False := by
      obtain ⟨meth9, c9, h1, h2, -, -, -, -, h7, -⟩ := Cond.code_spec B.named (atoms_spec (ws := ws) B.pre _ (by rw [hw]; exact List.mem_cons_self))
      cases Option.some.inj (h1.symm.trans B.method)
      cases Option.some.inj (h2.symm.trans (Stand.of_body B).code)
      intro x hx
      rw [Array.isEmpty_iff.mp h7] at hx
      cases hx
    obtain ⟨t, a1, o, b1, b2, b3⟩ := body p e s m args below meth c s₁ B hml ht hP s₁ hh0 (Stand.of_body B)
    exact ⟨t, o, a1, b1, b2, b3⟩
/-- the table of a body with handlers -/
theorem vx_table {p : Program} {x y : MethodName} {S : Spec} {cc bytes : ByteArray} {maxL maxL' : Nat} {ret ret' : Option FieldType} {e : Env} {s s₁ : State} {m : MethodId} {args : Array Value} {below : List Frame} {meth : Method} {c : Code} {hh : List (Nat × Nat × Nat × Nat)}
    (B : BodyLoose p l y S cc maxL ret e s m args below meth c s₁) (h : (Cond.codeWith y bytes maxL' ret' hh).before args s = true) : c.exceptionTable.toList = tableOf hh := by
  obtain ⟨m9, meth9, c9, hn9, h1, h2, -, -, h6, -⟩ := Cond.codeWith_spec h
  cases Option.some.inj (hn9.symm.trans B.named)
  cases Option.some.inj (h1.symm.trans B.method)
  cases Option.some.inj (h2.symm.trans (Stand.of_body B).code)
  rw [← h6, table_eq]
end Bodies
end VXA
/-! ===== END ===== -/
/-! ===== BEGIN a static call of a method with an exception table ===== -/
section VXS
variable {p : Program} {l : Launch} {e : Env} {R : Room} {s : State} {m : MethodId} {args : Array Value} {below : List Frame} {meth : Method} {c : Code} {T : State} {H : Heap} {locs : List Loc} {cells slots : Nat}
abbrev vx_CSW (R : Room) (s : State) (args : Array Value) (own : String) (index : Nat) (y : MethodName) (bytes : ByteArray) (maxL : Nat) (ret : Option FieldType) (hh : List (Nat × Nat × Nat × Nat)) (ws : List Cond) (rm : Room) (mc ms n : Nat) : Prop :=
  (rm.cells = mc ∧ rm.slots = ms ∧ rm.frames + 1 ≤ R.frames ∧ 8 + (maxL + 11) + rm.locals ≤ R.locals ∧ (∀ w ∈ ws, ∀ (a' : Array Value) (U : State), s.WarmedH U.vm → w.before a' U = true) ∧ Cond.codeWith y bytes maxL ret hh ∈ ws) ∧
  (Cond.codeWith y bytes maxL ret hh).before args s = true ∧ (Cond.initialized y.cls).before args s = true ∧ (y.cls ≠ "java/lang/invoke/MethodHandle" ∧ y.cls ≠ "java/lang/invoke/VarHandle") ∧
  (∀ sig, parseMethodDescriptor y.desc = some sig → n = sig.parameters.length) ∧ (Cond.methodLink own index y).before args s = true ∧ (Cond.static y).before args s = true
theorem vx_cwSW {own : String} {index maxL mc ms : Nat} {y : MethodName} {bytes : ByteArray} {ret : Option FieldType} {hh : List (Nat × Nat × Nat × Nat)} {Ts ws ws' : List Cond} {rm : Room} (n : Nat) (ht : ∀ w ∈ Ts, w.before args s = true) (hT : GoodIn Ts (va_wsS own index y ws)) (hw : ws = Cond.codeWith y bytes maxL ret hh :: ws') (hrc : rm.cells = mc) (hrs : rm.slots = ms)
    (hd : y.cls ≠ "java/lang/invoke/MethodHandle" ∧ y.cls ≠ "java/lang/invoke/VarHandle" ∧ (parseMethodDescriptor y.desc).map (fun d => d.parameters.length) = some n) (hR : rm.frames + 1 ≤ R.frames ∧ 8 + (maxL + 11) + rm.locals ≤ R.locals) :
    vx_CSW R s args own index y bytes maxL ret hh ws rm mc ms n := by
  have ok : ∀ w ∈ va_wsS own index y ws, w.before args s = true := fun w h => ht w (hT w h).1
  have hG : GoodIn Ts ws := fun w h => hT w (by unfold va_wsS; exact List.mem_append_right _ h)
  have hc : Cond.codeWith y bytes maxL ret hh ∈ ws := by rw [hw]; exact List.mem_cons_self
  refine ⟨⟨hrc, hrs, hR.1, hR.2, pay_in ht hG, hc⟩, ht _ (hG _ hc).1, ok _ (by simp [va_wsS]), ⟨hd.1, hd.2.1⟩, fun sig h => ?_, ok _ (by simp [va_wsS]), ok _ (by simp [va_wsS])⟩
  have h2 := hd.2.2
  rw [h] at h2
  exact (Option.some.inj h2).symm
theorem vx_callSW (X : Stand p l e R s m args below meth c T locs cells slots) (hexec : p.tables.exec = Jvm.exec) {own : String} {index : Nat} {y : MethodName} {bytes : ByteArray} {maxL : Nat} {ret : Option FieldType} {hh : List (Nat × Nat × Nat × Nat)}
    (hown : s.vm.findClass own = some m.cls) (hlink : (Cond.methodLink own index y).before args s = true) (hstat : (Cond.static y).before args s = true) (hinit : (Cond.initialized y.cls).before args s = true)
    (hcode : (Cond.codeWith y bytes maxL ret hh).before args s = true) (hy : y.cls ≠ "java/lang/invoke/MethodHandle" ∧ y.cls ≠ "java/lang/invoke/VarHandle")
    {W9 : Nat} {Pre : Pt → Array Value → Prop} {Post : Pt → Array Value → Option Value → Pt → Prop} (hK : Back l R p e below s args y 3 W9 Pre Post)
    {g : JFrame} (hg : g.method = m) (hsize : g.locals.size = c.maxLocals) {argsL rest : List Value} (hlen : ∀ sig, parseMethodDescriptor y.desc = some sig → argsL.length = sig.parameters.length)
    (hstack : g.stack = argsL.reverse ++ rest) (hW : 2 * g.monitorRoom + (rest.map fun v => v.category).sum ≤ W9) (hdg : decode c.code g.pc = .ok (.invokestatic index, 3))
    (hpre : ∀ vm₁, s.WarmedH vm₁ → Pre ⟨T.setVm vm₁, locs, cells, slots⟩ argsL.toArray) :
    ∃ (v : Option Value) (vm₁ : Vm) (B : Pt), s.WarmedH vm₁ ∧ Stand p l e R s m args below meth c B.U B.locs B.cells B.slots ∧ Post ⟨T.setVm vm₁, locs, cells, slots⟩ argsL.toArray v B ∧
      ∀ target, Steps p.tables e below (B.U.setTop { g with pc := g.pc + 3, stack := v.toList ++ rest }) target → Steps p.tables e below (T.setTop g) target := by
  obtain ⟨mk, methM, cM, hnamed, hmethM, -, -, -, -, -, -, hsigM⟩ := Cond.codeWith_spec hcode
  have hstatic : methM.isStatic = true := Cond.static_spec hnamed hmethM hstat
  obtain ⟨kP, hkP, -⟩ := className_of_methodNamed hnamed
  have hinitP : kP.init = .initialized := Cond.initialized_spec (findClass_of_methodNamed hnamed) hkP hinit
  obtain ⟨vm₁, X₁, hstep₁⟩ := X.invokestatic hexec hown hlink hnamed hmethM hstatic hkP hinitP hy (g := g) hg (argsL := argsL) (rest := rest) (hlen _ hsigM) hstack hdg
  obtain ⟨v, B, X', hpost, hsteps⟩ := hK m meth c ⟨T.setVm vm₁, locs, cells, slots⟩ { g with stack := rest } (.invokestatic index) mk argsL.toArray X₁ hg hsize hdg hW (X₁.named hnamed) (hpre vm₁ X₁.warmed)
  exact ⟨v, vm₁, B, X₁.warmed, X', hpost, fun target h => hstep₁ _ fun acts => by rw [doInvoke_state]; exact hsteps.trans h⟩
theorem vx_runSW {y : MethodName} {bytes cc : ByteArray} {maxL nL mc ms n index : Nat} {ret : Option FieldType} {hh : List (Nat × Nat × Nat × Nat)} {ws : List Cond} {rm : Room} {Pc : Array Value → State → Prop} {Qc : Array Value → State → Outcome → State → Prop} {free : Addr → Prop} {Ts : List Cond} {own : String} {As rest : List Value} {g : JFrame}
    (S : CallFix p m c cc nL s args Ts own) (hM : Met l y ws rm Pc Qc mc ms free) (cw : vx_CSW R s args own index y bytes maxL ret hh ws rm mc ms n) (hp : PreS s H Pc As)
    (hg : g.method = m) (hn : As.length = n) (hsize : g.locals.size = nL) (hstack : g.stack = As.reverse ++ rest) (hW : 2 * g.monitorRoom + (rest.map fun v => v.category).sum ≤ 8) (hdg : decode cc g.pc = .ok (.invokestatic index, 3)) (hf : cells + mc ≤ R.cells ∧ slots + ms ≤ R.slots) :
    va_Run p l e R s m args below meth c H locs cells slots mc ms g rest (Qc As.toArray) (free) := by
  obtain ⟨⟨hrc, hrs, hfr, hlo, hws, hcw⟩, hcode, hini, hy, hlen, hl, hstt⟩ := cw
  have hK : Back l R p e below s args y 3 8 (PreOf R mc ms Pc) (PostOf Qc mc ms free) := va_backW (hh := hh) (bytes := bytes) (maxL := maxL) (ret := ret) hM hp.1 hrc hrs hfr hlo hws hcw (fun a' U hW => word_at hW (Or.inl (by first | rfl | simp [Cond.onTables, Cond.keeps, Cond.steady])) hini)
  obtain ⟨hx, hb, hml, ho, -⟩ := S
  intro T hT X
  obtain ⟨v, vm₁, ⟨U', l2, c2, s2⟩, hW₁, X', ⟨g', mk, t, L, e1, e2, hq, h1, hL, h2, h3⟩, st⟩ := vx_callSW X hx (hh := hh) (bytes := bytes) (maxL := maxL) (ret := ret) ho hl hstt hini hcode hy hK hg (hsize.trans hml.symm) (argsL := As) (rest := rest) (fun sig h => hn.trans (hlen sig h)) hstack hW (by rw [hb]; exact hdg)
    (fun vm₁ hW₁ => ⟨hf.1, hf.2, hp.2 (T.setVm vm₁) hT hW₁⟩)
  dsimp only [Pt.U, Pt.locs, Pt.cells, Pt.slots] at X' e1 e2 h1 h2 h3 st
  subst h1; subst h2; subst h3
  exact ⟨v, (T.setVm vm₁).calling g' mk As.toArray, t, U', L, hT, X', hL, e1, e2, hq, st⟩
/-- not caught here, past rows that name other classes: it goes on to the caller -/
theorem vx_outP {p : Program} {l : Launch} {e : Env} {R : Room} {s : State} {m : MethodId} {args : Array Value} {below : List Frame} {meth : Method} {c : Code} {H : Heap} {locs : List Loc} {cells slots : Nat} {free : Addr → Prop} {ls : Array Slot} {rest : List Value} {Qc : Array Value → State → Outcome → State → Prop} {XC : String → State → State → Prop}
    {pc : Nat} {own E : String} {ce : Cell} {q : Addr} {mc ms : Nat} (hown : s.vm.findClass own = some m.cls) (hlocks : meth.locks = false)
    (hpass : ∀ z ∈ c.exceptionTable.toList, covers z pc = false ∨ (z.catchType ≠ 0 ∧ ∃ nm : String, (Cond.classLink own z.catchType nm).before args s = true ∧ va_Nc E nm s)) (hcell : H[q]? = some ce) (hv : ce.vm = .none) (hcl : s.vm.findClass E = some ce.cls)
    (hx : ∀ t : State, t.heap = H → s.vm.Alike t.vm → XC E s t) (hf : ∀ z ∈ locs, free z.base) (hc : cells ≤ mc) (hs : slots ≤ ms) :
    vx_W p l e R s m args below meth c H locs cells slots (vx_MQ below Qc XC args s mc ms free) (F0 m pc ls rest) q := by
  intro T hT X
  have hpl : e.platform.magicAccessors = ({} : Platform).magicAccessors := by rw [X.admits.platform]
  obtain ⟨vm', hW', X', st⟩ := X.outThrough hlocks q (g := F0 m pc ls rest) rfl rfl rfl (cell := ce) (by rw [hT]; exact hcell) (by rw [hv]; rfl)
    (by obtain ⟨k9, h9, -⟩ := Vm.findClass_spec hcl; exact ⟨k9, h9⟩) (fun z hz => by
      rcases hpass z hz with h | ⟨hz0, nm, hl1, hn1⟩
      · exact Or.inl h
      · obtain ⟨c6, hc6, hcl6⟩ := Cond.classLink_spec hown hl1 e.platform hpl
        obtain ⟨a8, b8, h1, h2, h3⟩ := hn1
        cases Option.some.inj (h1.symm.trans hcl)
        cases Option.some.inj (h2.symm.trans hc6)
        exact Or.inr ⟨hz0, _, hcl6, h3⟩)
  obtain ⟨g₀, hfr⟩ := X'.frames_eq
  have hcell9 : ((T.setVm vm').setFrames (.throwing q :: below)).heap[q]? = some ce := by
    show T.heap[q]? = some ce
    rw [hT]; exact hcell
  have hend : Ended ((T.setVm vm').setFrames (.throwing q :: below)) below (.threw q) := State.frames_setFrames _ (State.cur_lt_of_frames hfr)
  refine ⟨(T.setVm vm').setFrames (.throwing q :: below), ?_, .threw q, X'.here.running, hend, Or.inr ⟨q, rfl, E, ce, locs, hx _ hT (X'.ends _).1.alike, hcell9, hv, hcl, (X'.ends _).1, (X'.ends _).2.mono hc hs, hf⟩⟩
  rw [X.pushThrowing_eq]
  exact st
/-- a thing of a world lies in the heap -/
theorem vx_lt {D : va_G} {cl : List vw_C} {ws : va_W} {H1 : Heap} (h : va_P D cl ws H1) {k : Nat} {q : Nat × va_E} (hk : ws[k]? = some q) : q.1 < H1.size := (h k q hk).lt
end VXS
/-! ===== END ===== -/
/-! ===== BEGIN methods with a table of their own: called by a name, returning or throwing ===== -/
section VXH
/-! vx_backW, vx_callVX, vx_callSX, vx_callVW, vx_runVW, vx_runVX, vx_runSX, vx_ofWH follow the same proofs as their sisters above (Free/Laws.lean, Shelf42/LK1.lean); vx_outP calls Shelf42/NT130.lean (outThrough). -/
section
variable {l : Launch} {R : Room} {p : Program} {e : Env} {below : List Frame} {s : State} {sargs : Array Value} {y : MethodName} {len W9 : Nat}
theorem vx_backW {ws : List Cond} {rm : Room} {Pc : Array Value → State → Prop} {Qc : Array Value → State → Outcome → State → Prop} {XC : String → State → State → Prop} {mc ms : Nat} {free : Addr → Prop} {bytes : ByteArray} {maxL : Nat} {ret : Option FieldType} {hh : List (Nat × Nat × Nat × Nat)}
    (hM : vx_Met l y ws rm Pc Qc XC mc ms free) (hblind : FrameBlind Pc) (hrc : rm.cells = mc) (hrs : rm.slots = ms)
    (hframes : rm.frames + 1 ≤ R.frames) (hlocals : W9 + (maxL + 11) + rm.locals ≤ R.locals)
    (hws : ∀ w ∈ ws, ∀ a' U, s.WarmedH U.vm → w.before a' U = true) (hcode : Cond.codeWith y bytes maxL ret hh ∈ ws) (hinit : ∀ a' U, s.WarmedH U.vm → (Cond.initialized y.cls).before a' U = true) :
    vx_Back l R p e below s sargs y len W9 (PreOf R mc ms Pc) (PostOf Qc mc ms free) (vx_Post XC mc ms free) := by
  intro m meth c A g ig mk a X hg hsize hdg hW hn hp
  have h1 : (headSpec ws rm).pre.before a A.U = true := atoms_intro fun w hw => hws w hw _ _ X.warmed
  have h2 : (Cond.codeWith y bytes maxL ret hh).before a A.U = true := hws _ hcode _ _ X.warmed
  have h3 : (Cond.initialized y.cls).before a A.U = true := hinit _ _ X.warmed
  have h4 : A.cells + (headSpec ws rm).room.cells ≤ R.cells := by rw [show (headSpec ws rm).room.cells = mc from hrc]; exact hp.1
  have h5 : A.slots + (headSpec ws rm).room.slots ≤ R.slots := by rw [show (headSpec ws rm).room.slots = ms from hrs]; exact hp.2.1
  have hPc : Pc a (A.U.calling g mk a) := hblind _ _ _ _ hp.2.2
  obtain ⟨U, Ls, c0, s0⟩ := A
  dsimp only [Pt.U, Pt.locs, Pt.cells, Pt.slots] at h1 h2 h3 h4 h5 X hn hPc ⊢
  obtain ⟨m9, methY, cY, hn9, hmY, hcY, -, hlY, -⟩ := Cond.codeWith_spec h2
  cases Option.some.inj (hn9.symm.trans hn)
  obtain ⟨kY, hkY, -⟩ := className_of_methodNamed hn
  have hinitY : kY.init = .initialized := Cond.initialized_spec (findClass_of_methodNamed hn) hkY h3
  have h : At U g.method c below := by rw [hg]; exact X.here
  have hlocals9 : W9 + (maxL + 11) + (headSpec ws rm).room.locals ≤ R.locals := hlocals
  have happ : (headSpec ws rm).appliesLoose y e.platform (U.calling g mk a) = true :=
    Spec.appliesLoose_calling (g := g) h hdg hn hkY hinitY
      (X.room_calling (g := g) (R' := (headSpec ws rm).room) hsize hmY hcY hframes (by rw [hlY]; omega) h4 h5) h1
  obtain ⟨mid, hmid⟩ := h.above
  have hfr : (U.setTop g).frames = (.java g :: mid) ++ below := by rw [State.frames_setTop' g h.top, hmid]; rfl
  obtain ⟨o, s₂, hsteps, -, hend, hq⟩ := Steps.callFree hM p X.admits X.cas X.clock (acts := []) hfr happ hPc trivial
  have hq' : vx_Q Qc XC mc ms free a (U.calling g mk a) o s₂ := hq
  rw [State.frames_setTop' g h.top] at hend
  obtain ⟨g₀, hg0⟩ := Option.isSome_iff_exists.mp h.top
  obtain ⟨r, hr⟩ := State.topJava?_eq_some.mp hg0
  have hr' : (({ U with heap := s₂.heap, slotsUsed := s₂.slotsUsed } : State).setVm s₂.vm).frames = .java g₀ :: r := hr
  rcases hq' with ⟨hqc, L, hfe, hL⟩ | ⟨q, rfl, E, ce, L, hx, hce, hcv, hcl, hW₂, hsm, hL⟩
  · obtain ⟨⟨v, rfl⟩, hW₂, e2, q2, q3, q4, q5, q6⟩ := id hfe
    have e3 : s₂ = ({ (U.calling g mk a).setFrames s₂.frames with heap := s₂.heap, slotsUsed := s₂.slotsUsed } : State).setVm s₂.vm := by
      have : s₂ = ({ s₂ with vm := (U.calling g mk a).vm } : State).setVm s₂.vm := rfl
      rw [e2] at this
      exact this
    obtain ⟨c₂, i₂, len₂, hc₂, hd₂, hf₂⟩ := hend
    have hW' : U.WarmedH s₂.vm := hW₂
    have hcc : c₂ = c := by
      have h1 : s₂.code? g.method = U.code? g.method := by
        rw [State.code?_eq, State.code?_eq, hW'.alike.method?]
      exact Option.some.inj (hc₂.symm.trans (h1.trans h.code))
    subst hcc
    have hlen : len₂ = len := by rw [hdg] at hd₂; cases hd₂; rfl
    subst hlen
    have hs₂ : s₂ = (({ U with heap := s₂.heap, slotsUsed := s₂.slotsUsed } : State).setVm s₂.vm).setTop { g with pc := g.pc + len₂, stack := v.toList ++ g.stack } := by
      refine e3.trans ?_
      rw [hf₂, State.calling_eq h.top, State.setFrames_setFrames, State.setTop_of_frames _ hr', hr]
      rfl
    have hsame : U.sameButNew ({ U with heap := s₂.heap, slotsUsed := s₂.slotsUsed } : State) L mc ms := by
      refine ⟨?_, q2, q3, q4, q5, q6⟩
      obtain ⟨t, ht, -⟩ := State.frames_cons hr
      show ({ U with heap := s₂.heap, slotsUsed := s₂.slotsUsed } : State) = { U.setFrames U.frames with heap := s₂.heap, slotsUsed := s₂.slotsUsed }
      rw [State.setFrames_self ht]
    subst hg
    refine Or.inl ⟨v, ⟨(({ U with heap := s₂.heap, slotsUsed := s₂.slotsUsed } : State).setVm s₂.vm), Ls ++ L, c0 + mc, s0 + ms⟩,
      ⟨X.admits, X.cas, X.clock, X.frames, X.room, X.hears, X.method, X.code, (X.here.setHeapUsed s₂.heap s₂.slotsUsed).setVm hW'.alike, X.tail, State.WarmedH.trans X.warmed hW', X.limits, X.bytes, X.same.trans (hsame.setVm s.vm)⟩,
      ⟨g, mk, s₂, L, rfl, rfl, hqc, rfl, hL, rfl, rfl⟩, ?_⟩
    show Steps p.tables e below _ ((({ U with heap := s₂.heap, slotsUsed := s₂.slotsUsed } : State).setVm s₂.vm).setTop { g with pc := g.pc + len₂, stack := v.toList ++ g.stack })
    rw [← hs₂]
    exact hsteps
  · obtain ⟨e2, q2, q3, q4, q5, q6⟩ := id hsm
    have e3 : s₂ = ({ (U.calling g mk a).setFrames s₂.frames with heap := s₂.heap, slotsUsed := s₂.slotsUsed } : State).setVm s₂.vm := by
      have : s₂ = ({ s₂ with vm := (U.calling g mk a).vm } : State).setVm s₂.vm := rfl
      rw [e2] at this
      exact this
    have hf₂ : s₂.frames = .throwing q :: .java g :: U.frames.tail := hend
    have hW' : U.WarmedH s₂.vm := hW₂
    have hs₂ : s₂ = ((({ U with heap := s₂.heap, slotsUsed := s₂.slotsUsed } : State).setVm s₂.vm).setTop g).pushFrame (.throwing q) := by
      refine e3.trans ?_
      rw [hf₂, State.calling_eq h.top, State.setFrames_setFrames, State.pushFrame, State.frames_setTop _ hr', State.setTop_of_frames _ hr', State.setFrames_setFrames, hr]
      rfl
    have hsame : U.sameButNew ({ U with heap := s₂.heap, slotsUsed := s₂.slotsUsed } : State) L mc ms := by
      refine ⟨?_, q2, q3, q4, q5, q6⟩
      obtain ⟨t, ht, -⟩ := State.frames_cons hr
      show ({ U with heap := s₂.heap, slotsUsed := s₂.slotsUsed } : State) = { U.setFrames U.frames with heap := s₂.heap, slotsUsed := s₂.slotsUsed }
      rw [State.setFrames_self ht]
    subst hg
    refine Or.inr ⟨q, ⟨(({ U with heap := s₂.heap, slotsUsed := s₂.slotsUsed } : State).setVm s₂.vm), Ls ++ L, c0 + mc, s0 + ms⟩,
      ⟨X.admits, X.cas, X.clock, X.frames, X.room, X.hears, X.method, X.code, (X.here.setHeapUsed s₂.heap s₂.slotsUsed).setVm hW'.alike, X.tail, State.WarmedH.trans X.warmed hW', X.limits, X.bytes, X.same.trans (hsame.setVm s.vm)⟩,
      ⟨g, mk, s₂, L, E, ce, rfl, rfl, hx, hce, hcv, hcl, rfl, hL, rfl, rfl⟩, ?_⟩
    show Steps p.tables e below _ (((({ U with heap := s₂.heap, slotsUsed := s₂.slotsUsed } : State).setVm s₂.vm).setTop g).pushFrame (.throwing q))
    rw [← hs₂]
    exact hsteps
end
variable {p : Program} {l : Launch} {e : Env} {R : Room} {s : State} {m : MethodId} {args : Array Value} {below : List Frame} {meth : Method} {c : Code} {T : State} {H : Heap} {locs : List Loc} {cells slots : Nat}
theorem vx_callVX (X : Stand p l e R s m args below meth c T locs cells slots) (hexec : p.tables.exec = Jvm.exec) {own C : String} {index : Nat} {y : MethodName} {bytes : ByteArray} {maxL : Nat} {ret : Option FieldType} {hh : List (Nat × Nat × Nat × Nat)}
    (hown : s.vm.findClass own = some m.cls) (hlink : (Cond.methodLink own index y).before args s = true) (hinst : (Cond.instanceMethod y).before args s = true) (hsel : (Cond.selects C y y).before args s = true)
    (hcode : (Cond.codeWith y bytes maxL ret hh).before args s = true) (hy : y.cls ≠ "java/lang/invoke/MethodHandle" ∧ y.cls ≠ "java/lang/invoke/VarHandle")
    {W9 : Nat} {Pre : Pt → Array Value → Prop} {Post : Pt → Array Value → Option Value → Pt → Prop} {PostX : Pt → Array Value → Addr → Pt → Prop} (hK : vx_Back l R p e below s args y 3 W9 Pre Post PostX)
    {b : Addr} {cellB : Cell} (hcell : T.heap[b]? = some cellB) (hobj : cellB.vm.isStatics = false) (hcls : s.vm.findClass C = some cellB.cls)
    {g : JFrame} (hg : g.method = m) (hsize : g.locals.size = c.maxLocals) {argsL rest : List Value} (hlen : ∀ sig, parseMethodDescriptor y.desc = some sig → argsL.length = sig.parameters.length)
    (hstack : g.stack = argsL.reverse ++ .ref b :: rest) (hW : 2 * g.monitorRoom + (rest.map fun v => v.category).sum ≤ W9) (hdg : decode c.code g.pc = .ok (.invokevirtual index, 3))
    (hpre : ∀ vm₁, s.WarmedH vm₁ → Pre ⟨T.setVm vm₁, locs, cells, slots⟩ (Value.ref b :: argsL).toArray) :
    (∃ (v : Option Value) (vm₁ : Vm) (B : Pt), s.WarmedH vm₁ ∧ Stand p l e R s m args below meth c B.U B.locs B.cells B.slots ∧ Post ⟨T.setVm vm₁, locs, cells, slots⟩ (Value.ref b :: argsL).toArray v B ∧
      ∀ target, Steps p.tables e below (B.U.setTop { g with pc := g.pc + 3, stack := v.toList ++ rest }) target → Steps p.tables e below (T.setTop g) target) ∨
    (∃ (q : Addr) (vm₁ : Vm) (B : Pt), s.WarmedH vm₁ ∧ Stand p l e R s m args below meth c B.U B.locs B.cells B.slots ∧ PostX ⟨T.setVm vm₁, locs, cells, slots⟩ (Value.ref b :: argsL).toArray q B ∧
      Steps p.tables e below (T.setTop g) ((B.U.setTop { g with stack := rest }).pushFrame (.throwing q))) := by
  obtain ⟨mk, methM, hnamed, hmethM, hstM, habM⟩ := Cond.instanceMethod_spec hinst
  obtain ⟨m8, methM', cM, hn8, hmethM', -, -, -, -, -, -, hsigM⟩ := Cond.codeWith_spec hcode
  cases Option.some.inj (hn8.symm.trans hnamed)
  cases hmethM.symm.trans hmethM'
  obtain ⟨c2, r2, m2, q1, q2, q3, q4, kP, hkP, hkPi⟩ := Cond.selects_spec hsel
  cases hcls.symm.trans q1
  cases (State.methodFound?_of_named hnamed hy).symm.trans q2
  cases hnamed.symm.trans q3
  have hselP : selectMethod e.platform s.vm cellB.cls mk = .method mk := by rw [Launch.admits_selectMethod X.admits]; exact q4
  obtain ⟨vm₁, X₁, hstep₁⟩ := X.invokevirtual hexec hown hlink hnamed hmethM hstM hkP hkPi hy (a := b) (cell := cellB) hcell
    (fun z h => by rw [h] at hobj; cases hobj) hselP hmethM habM hkP hkPi (g := g) hg (argsL := argsL) (rest := rest) (hlen _ hsigM) hstack hdg
  rcases hK m meth c ⟨T.setVm vm₁, locs, cells, slots⟩ { g with stack := rest } (.invokevirtual index) mk (Value.ref b :: argsL).toArray X₁ hg hsize hdg hW (X₁.named hnamed) (hpre vm₁ X₁.warmed) with ⟨v, B, X', hpost, hsteps⟩ | ⟨q, B, X', hpost, hsteps⟩
  · exact Or.inl ⟨v, vm₁, B, X₁.warmed, X', hpost, fun target h => hstep₁ _ fun acts => by rw [doInvoke_state]; exact hsteps.trans h⟩
  · exact Or.inr ⟨q, vm₁, B, X₁.warmed, X', hpost, hstep₁ _ fun acts => by rw [doInvoke_state]; exact hsteps⟩
theorem vx_callSX (X : Stand p l e R s m args below meth c T locs cells slots) (hexec : p.tables.exec = Jvm.exec) {own : String} {index : Nat} {y : MethodName} {bytes : ByteArray} {maxL : Nat} {ret : Option FieldType} {hh : List (Nat × Nat × Nat × Nat)}
    (hown : s.vm.findClass own = some m.cls) (hlink : (Cond.methodLink own index y).before args s = true) (hstat : (Cond.static y).before args s = true) (hinit : (Cond.initialized y.cls).before args s = true)
    (hcode : (Cond.codeWith y bytes maxL ret hh).before args s = true) (hy : y.cls ≠ "java/lang/invoke/MethodHandle" ∧ y.cls ≠ "java/lang/invoke/VarHandle")
    {W9 : Nat} {Pre : Pt → Array Value → Prop} {Post : Pt → Array Value → Option Value → Pt → Prop} {PostX : Pt → Array Value → Addr → Pt → Prop} (hK : vx_Back l R p e below s args y 3 W9 Pre Post PostX)
    {g : JFrame} (hg : g.method = m) (hsize : g.locals.size = c.maxLocals) {argsL rest : List Value} (hlen : ∀ sig, parseMethodDescriptor y.desc = some sig → argsL.length = sig.parameters.length)
    (hstack : g.stack = argsL.reverse ++ rest) (hW : 2 * g.monitorRoom + (rest.map fun v => v.category).sum ≤ W9) (hdg : decode c.code g.pc = .ok (.invokestatic index, 3))
    (hpre : ∀ vm₁, s.WarmedH vm₁ → Pre ⟨T.setVm vm₁, locs, cells, slots⟩ argsL.toArray) :
    (∃ (v : Option Value) (vm₁ : Vm) (B : Pt), s.WarmedH vm₁ ∧ Stand p l e R s m args below meth c B.U B.locs B.cells B.slots ∧ Post ⟨T.setVm vm₁, locs, cells, slots⟩ argsL.toArray v B ∧
      ∀ target, Steps p.tables e below (B.U.setTop { g with pc := g.pc + 3, stack := v.toList ++ rest }) target → Steps p.tables e below (T.setTop g) target) ∨
    (∃ (q : Addr) (vm₁ : Vm) (B : Pt), s.WarmedH vm₁ ∧ Stand p l e R s m args below meth c B.U B.locs B.cells B.slots ∧ PostX ⟨T.setVm vm₁, locs, cells, slots⟩ argsL.toArray q B ∧
      Steps p.tables e below (T.setTop g) ((B.U.setTop { g with stack := rest }).pushFrame (.throwing q))) := by
  obtain ⟨mk, methM, cM, hnamed, hmethM, -, -, -, -, -, -, hsigM⟩ := Cond.codeWith_spec hcode
  have hstatic : methM.isStatic = true := Cond.static_spec hnamed hmethM hstat
  obtain ⟨kP, hkP, -⟩ := className_of_methodNamed hnamed
  have hinitP : kP.init = .initialized := Cond.initialized_spec (findClass_of_methodNamed hnamed) hkP hinit
  obtain ⟨vm₁, X₁, hstep₁⟩ := X.invokestatic hexec hown hlink hnamed hmethM hstatic hkP hinitP hy (g := g) hg (argsL := argsL) (rest := rest) (hlen _ hsigM) hstack hdg
  rcases hK m meth c ⟨T.setVm vm₁, locs, cells, slots⟩ { g with stack := rest } (.invokestatic index) mk argsL.toArray X₁ hg hsize hdg hW (X₁.named hnamed) (hpre vm₁ X₁.warmed) with ⟨v, B, X', hpost, hsteps⟩ | ⟨q, B, X', hpost, hsteps⟩
  · exact Or.inl ⟨v, vm₁, B, X₁.warmed, X', hpost, fun target h => hstep₁ _ fun acts => by rw [doInvoke_state]; exact hsteps.trans h⟩
  · exact Or.inr ⟨q, vm₁, B, X₁.warmed, X', hpost, hstep₁ _ fun acts => by rw [doInvoke_state]; exact hsteps⟩
theorem vx_callVW (X : Stand p l e R s m args below meth c T locs cells slots) (hexec : p.tables.exec = Jvm.exec) {own C : String} {index : Nat} {y : MethodName} {bytes : ByteArray} {maxL : Nat} {ret : Option FieldType} {hh : List (Nat × Nat × Nat × Nat)}
    (hown : s.vm.findClass own = some m.cls) (hlink : (Cond.methodLink own index y).before args s = true) (hinst : (Cond.instanceMethod y).before args s = true) (hsel : (Cond.selects C y y).before args s = true)
    (hcode : (Cond.codeWith y bytes maxL ret hh).before args s = true) (hy : y.cls ≠ "java/lang/invoke/MethodHandle" ∧ y.cls ≠ "java/lang/invoke/VarHandle")
    {W9 : Nat} {Pre : Pt → Array Value → Prop} {Post : Pt → Array Value → Option Value → Pt → Prop} (hK : Back l R p e below s args y 3 W9 Pre Post)
    {b : Addr} {cellB : Cell} (hcell : T.heap[b]? = some cellB) (hobj : cellB.vm.isStatics = false) (hcls : s.vm.findClass C = some cellB.cls)
    {g : JFrame} (hg : g.method = m) (hsize : g.locals.size = c.maxLocals) {argsL rest : List Value} (hlen : ∀ sig, parseMethodDescriptor y.desc = some sig → argsL.length = sig.parameters.length)
    (hstack : g.stack = argsL.reverse ++ .ref b :: rest) (hW : 2 * g.monitorRoom + (rest.map fun v => v.category).sum ≤ W9) (hdg : decode c.code g.pc = .ok (.invokevirtual index, 3))
    (hpre : ∀ vm₁, s.WarmedH vm₁ → Pre ⟨T.setVm vm₁, locs, cells, slots⟩ (Value.ref b :: argsL).toArray) :
    ∃ (v : Option Value) (vm₁ : Vm) (B : Pt), s.WarmedH vm₁ ∧ Stand p l e R s m args below meth c B.U B.locs B.cells B.slots ∧ Post ⟨T.setVm vm₁, locs, cells, slots⟩ (Value.ref b :: argsL).toArray v B ∧
      ∀ target, Steps p.tables e below (B.U.setTop { g with pc := g.pc + 3, stack := v.toList ++ rest }) target → Steps p.tables e below (T.setTop g) target := by
  obtain ⟨mk, methM, hnamed, hmethM, hstM, habM⟩ := Cond.instanceMethod_spec hinst
  obtain ⟨m8, methM', cM, hn8, hmethM', -, -, -, -, -, -, hsigM⟩ := Cond.codeWith_spec hcode
  cases Option.some.inj (hn8.symm.trans hnamed)
  cases hmethM.symm.trans hmethM'
  obtain ⟨c2, r2, m2, q1, q2, q3, q4, kP, hkP, hkPi⟩ := Cond.selects_spec hsel
  cases hcls.symm.trans q1
  cases (State.methodFound?_of_named hnamed hy).symm.trans q2
  cases hnamed.symm.trans q3
  have hselP : selectMethod e.platform s.vm cellB.cls mk = .method mk := by rw [Launch.admits_selectMethod X.admits]; exact q4
  obtain ⟨vm₁, X₁, hstep₁⟩ := X.invokevirtual hexec hown hlink hnamed hmethM hstM hkP hkPi hy (a := b) (cell := cellB) hcell
    (fun z h => by rw [h] at hobj; cases hobj) hselP hmethM habM hkP hkPi (g := g) hg (argsL := argsL) (rest := rest) (hlen _ hsigM) hstack hdg
  obtain ⟨v, B, X', hpost, hsteps⟩ := hK m meth c ⟨T.setVm vm₁, locs, cells, slots⟩ { g with stack := rest } (.invokevirtual index) mk (Value.ref b :: argsL).toArray X₁ hg hsize hdg hW (X₁.named hnamed) (hpre vm₁ X₁.warmed)
  exact ⟨v, vm₁, B, X₁.warmed, X', hpost, fun target h => hstep₁ _ fun acts => by rw [doInvoke_state]; exact hsteps.trans h⟩
abbrev vx_CVW (R : Room) (s : State) (args : Array Value) (own C : String) (index : Nat) (y : MethodName) (bytes : ByteArray) (maxL : Nat) (ret : Option FieldType) (hh : List (Nat × Nat × Nat × Nat)) (ws : List Cond) (rm : Room) (mc ms n : Nat) : Prop :=
  (rm.cells = mc ∧ rm.slots = ms ∧ rm.frames + 1 ≤ R.frames ∧ 8 + (maxL + 11) + rm.locals ≤ R.locals ∧ (∀ w ∈ ws, ∀ (a' : Array Value) (U : State), s.WarmedH U.vm → w.before a' U = true) ∧ Cond.codeWith y bytes maxL ret hh ∈ ws) ∧
  (Cond.codeWith y bytes maxL ret hh).before args s = true ∧ (Cond.initialized y.cls).before args s = true ∧ (y.cls ≠ "java/lang/invoke/MethodHandle" ∧ y.cls ≠ "java/lang/invoke/VarHandle") ∧
  (∀ sig, parseMethodDescriptor y.desc = some sig → n = sig.parameters.length) ∧ (Cond.methodLink own index y).before args s = true ∧ (Cond.instanceMethod y).before args s = true ∧ (Cond.selects C y y).before args s = true
theorem vx_cwVW {own C : String} {index maxL mc ms : Nat} {y : MethodName} {bytes : ByteArray} {ret : Option FieldType} {hh : List (Nat × Nat × Nat × Nat)} {Ts ws ws' : List Cond} {rm : Room} (n : Nat) (ht : ∀ w ∈ Ts, w.before args s = true) (hT : GoodIn Ts (wsV own index C y ws)) (hw : ws = Cond.codeWith y bytes maxL ret hh :: ws') (hrc : rm.cells = mc) (hrs : rm.slots = ms)
    (hd : y.cls = C ∧ y.cls ≠ "java/lang/invoke/MethodHandle" ∧ y.cls ≠ "java/lang/invoke/VarHandle" ∧ (parseMethodDescriptor y.desc).map (fun d => d.parameters.length) = some n) (hR : rm.frames + 1 ≤ R.frames ∧ 8 + (maxL + 11) + rm.locals ≤ R.locals) :
    vx_CVW R s args own C index y bytes maxL ret hh ws rm mc ms n := by
  obtain ⟨hC, hd⟩ := hd
  subst hC
  have ok : ∀ w ∈ wsV own index y.cls y ws, w.before args s = true := fun w h => ht w (hT w h).1
  have hG : GoodIn Ts ws := fun w h => hT w (by unfold wsV; exact List.mem_append_right _ h)
  have hc : Cond.codeWith y bytes maxL ret hh ∈ ws := by rw [hw]; exact List.mem_cons_self
  refine ⟨⟨hrc, hrs, hR.1, hR.2, pay_in ht hG, hc⟩, ht _ (hG _ hc).1, ok _ (by simp [wsV]), ⟨hd.1, hd.2.1⟩, fun sig h => ?_, ok _ (by simp [wsV]), ok _ (by simp [wsV]), ok _ (by simp [wsV])⟩
  have h2 := hd.2.2
  rw [h] at h2
  exact (Option.some.inj h2).symm
theorem vx_runVW {y : MethodName} {bytes cc : ByteArray} {maxL nL mc ms n index : Nat} {ret : Option FieldType} {hh : List (Nat × Nat × Nat × Nat)} {ws : List Cond} {rm : Room} {Pc : Array Value → State → Prop} {Qc : Array Value → State → Outcome → State → Prop} {free : Addr → Prop} {Ts : List Cond} {own C : String} {b : Addr} {As rest : List Value} {g : JFrame}
    (S : CallFix p m c cc nL s args Ts own) (hM : Met l y ws rm Pc Qc mc ms free) (cw : vx_CVW R s args own C index y bytes maxL ret hh ws rm mc ms n) (hp : PreV s H C b Pc As)
    (hg : g.method = m) (hn : As.length = n) (hsize : g.locals.size = nL) (hstack : g.stack = As.reverse ++ .ref b :: rest) (hW : 2 * g.monitorRoom + (rest.map fun v => v.category).sum ≤ 8) (hdg : decode cc g.pc = .ok (.invokevirtual index, 3)) (hf : cells + mc ≤ R.cells ∧ slots + ms ≤ R.slots) :
    va_Run p l e R s m args below meth c H locs cells slots mc ms g rest (Qc (Value.ref b :: As).toArray) free := by
  obtain ⟨⟨hrc, hrs, hfr, hlo, hws, hcw⟩, hcode, hini, hy, hlen, hl, hin, hse⟩ := cw
  have hK : Back l R p e below s args y 3 8 (PreOf R mc ms Pc) (PostOf Qc mc ms free) := va_backW (hh := hh) (bytes := bytes) (maxL := maxL) (ret := ret) hM hp.1 hrc hrs hfr hlo hws hcw (fun a' U hW => word_at hW (Or.inl (by first | rfl | simp [Cond.onTables, Cond.keeps, Cond.steady])) hini)
  obtain ⟨hx, hb, hml, ho, -⟩ := S
  obtain ⟨-, ⟨cellB, hcB, hoB, hclB⟩, hPc⟩ := hp
  intro T hT X
  obtain ⟨v, vm₁, ⟨U', l2, c2, s2⟩, hW₁, X', ⟨g', mk, t, L, e1, e2, hq, h1, hL, h2, h3⟩, st⟩ := vx_callVW X hx (C := C) (hh := hh) (bytes := bytes) (maxL := maxL) (ret := ret) ho hl hin hse hcode hy hK (by rw [hT]; exact hcB) hoB hclB hg (hsize.trans hml.symm) (argsL := As) (rest := rest) (fun sig h => hn.trans (hlen sig h)) hstack hW (by rw [hb]; exact hdg)
    (fun vm₁ hW₁ => ⟨hf.1, hf.2, hPc (T.setVm vm₁) hT hW₁⟩)
  dsimp only [Pt.U, Pt.locs, Pt.cells, Pt.slots] at X' e1 e2 h1 h2 h3 st
  subst h1; subst h2; subst h3
  exact ⟨v, (T.setVm vm₁).calling g' mk (Value.ref b :: As).toArray, t, U', L, hT, X', hL, e1, e2, hq, st⟩
section
variable {y : MethodName} {bytes cc : ByteArray} {maxL nL mc ms n index : Nat} {ret : Option FieldType} {ws : List Cond} {rm : Room} {Pc : Array Value → State → Prop} {Qc : Array Value → State → Outcome → State → Prop} {XC : String → State → State → Prop} {free : Addr → Prop} {Ts : List Cond} {own C : String} {b : Addr} {As rest : List Value} {g : JFrame}
theorem vx_runVX {hh : List (Nat × Nat × Nat × Nat)} (S : CallFix p m c cc nL s args Ts own) (hM : vx_Met l y ws rm Pc Qc XC mc ms free) (cw : vx_CVW R s args own C index y bytes maxL ret hh ws rm mc ms n) (hp : PreV s H C b Pc As)
    (hg : g.method = m) (hn : As.length = n) (hsize : g.locals.size = nL) (hstack : g.stack = As.reverse ++ .ref b :: rest) (hW : 2 * g.monitorRoom + (rest.map fun v => v.category).sum ≤ 8) (hdg : decode cc g.pc = .ok (.invokevirtual index, 3)) (hf : cells + mc ≤ R.cells ∧ slots + ms ≤ R.slots) :
    vx_Run p l e R s m args below meth c H locs cells slots mc ms g rest (Qc (Value.ref b :: As).toArray) XC free := by
  obtain ⟨⟨hrc, hrs, hfr, hlo, hws, hcw⟩, hcode, hini, hy, hlen, hl, hin, hse⟩ := cw
  have hK : vx_Back l R p e below s args y 3 8 (PreOf R mc ms Pc) (PostOf Qc mc ms free) (vx_Post XC mc ms free) := vx_backW (hh := hh) (bytes := bytes) (maxL := maxL) (ret := ret) hM hp.1 hrc hrs hfr hlo hws hcw (fun a' U hW => word_at hW (Or.inl (by first | rfl | simp [Cond.onTables, Cond.keeps, Cond.steady])) hini)
  obtain ⟨hx, hb, hml, ho, -⟩ := S
  obtain ⟨-, ⟨cellB, hcB, hoB, hclB⟩, hPc⟩ := hp
  intro T hT X
  rcases vx_callVX X hx (C := C) (hh := hh) (bytes := bytes) (maxL := maxL) (ret := ret) ho hl hin hse hcode hy hK (by rw [hT]; exact hcB) hoB hclB hg (hsize.trans hml.symm) (argsL := As) (rest := rest) (fun sig h => hn.trans (hlen sig h)) hstack hW (by rw [hb]; exact hdg)
    (fun vm₁ hW₁ => ⟨hf.1, hf.2, hPc (T.setVm vm₁) hT hW₁⟩) with ⟨v, vm₁, ⟨U', l2, c2, s2⟩, hW₁, X', ⟨g', mk, t, L, e1, e2, hq, h1, hL, h2, h3⟩, st⟩ | ⟨q, vm₁, ⟨U', l2, c2, s2⟩, hW₁, X', ⟨g', mk, t, L, E, ce, e1, e2, hq, hce, hcv, hcl, h1, hL, h2, h3⟩, st⟩
  · dsimp only [Pt.U, Pt.locs, Pt.cells, Pt.slots] at X' e1 e2 h1 h2 h3 st
    subst h1; subst h2; subst h3
    exact Or.inl ⟨v, (T.setVm vm₁).calling g' mk (Value.ref b :: As).toArray, t, U', L, hT, X', hL, e1, e2, hq, st⟩
  · dsimp only [Pt.U, Pt.locs, Pt.cells, Pt.slots] at X' e1 e2 h1 h2 h3 st hcl
    subst h1; subst h2; subst h3
    exact Or.inr ⟨q, (T.setVm vm₁).calling g' mk (Value.ref b :: As).toArray, t, U', L, E, ce, hT, X', hL, e1, e2, hq, hce, hcv, vx_cls hW₁ hcl, st⟩
theorem vx_runSX {hh : List (Nat × Nat × Nat × Nat)} (S : CallFix p m c cc nL s args Ts own) (hM : vx_Met l y ws rm Pc Qc XC mc ms free) (cw : vx_CSW R s args own index y bytes maxL ret hh ws rm mc ms n) (hp : PreS s H Pc As)
    (hg : g.method = m) (hn : As.length = n) (hsize : g.locals.size = nL) (hstack : g.stack = As.reverse ++ rest) (hW : 2 * g.monitorRoom + (rest.map fun v => v.category).sum ≤ 8) (hdg : decode cc g.pc = .ok (.invokestatic index, 3)) (hf : cells + mc ≤ R.cells ∧ slots + ms ≤ R.slots) :
    vx_Run p l e R s m args below meth c H locs cells slots mc ms g rest (Qc As.toArray) XC free := by
  obtain ⟨⟨hrc, hrs, hfr, hlo, hws, hcw⟩, hcode, hini, hy, hlen, hl, hstt⟩ := cw
  have hK : vx_Back l R p e below s args y 3 8 (PreOf R mc ms Pc) (PostOf Qc mc ms free) (vx_Post XC mc ms free) := vx_backW (hh := hh) (bytes := bytes) (maxL := maxL) (ret := ret) hM hp.1 hrc hrs hfr hlo hws hcw (fun a' U hW => word_at hW (Or.inl (by first | rfl | simp [Cond.onTables, Cond.keeps, Cond.steady])) hini)
  obtain ⟨hx, hb, hml, ho, -⟩ := S
  intro T hT X
  rcases vx_callSX X hx (hh := hh) (bytes := bytes) (maxL := maxL) (ret := ret) ho hl hstt hini hcode hy hK hg (hsize.trans hml.symm) (argsL := As) (rest := rest) (fun sig h => hn.trans (hlen sig h)) hstack hW (by rw [hb]; exact hdg)
    (fun vm₁ hW₁ => ⟨hf.1, hf.2, hp.2 (T.setVm vm₁) hT hW₁⟩) with ⟨v, vm₁, ⟨U', l2, c2, s2⟩, hW₁, X', ⟨g', mk, t, L, e1, e2, hq, h1, hL, h2, h3⟩, st⟩ | ⟨q, vm₁, ⟨U', l2, c2, s2⟩, hW₁, X', ⟨g', mk, t, L, E, ce, e1, e2, hq, hce, hcv, hcl, h1, hL, h2, h3⟩, st⟩
  · dsimp only [Pt.U, Pt.locs, Pt.cells, Pt.slots] at X' e1 e2 h1 h2 h3 st
    subst h1; subst h2; subst h3
    exact Or.inl ⟨v, (T.setVm vm₁).calling g' mk As.toArray, t, U', L, hT, X', hL, e1, e2, hq, st⟩
  · dsimp only [Pt.U, Pt.locs, Pt.cells, Pt.slots] at X' e1 e2 h1 h2 h3 st hcl
    subst h1; subst h2; subst h3
    exact Or.inr ⟨q, (T.setVm vm₁).calling g' mk As.toArray, t, U', L, E, ce, hT, X', hL, e1, e2, hq, hce, hcv, vx_cls hW₁ hcl, st⟩
end
end VXH
theorem vx_ofWH {l : Launch} {y : MethodName} {ws ws' : List Cond} {rm : Room} {Pc : Array Value → State → Prop} {Qc : Array Value → State → Outcome → State → Prop} {XC : String → State → State → Prop} {mc ms : Nat} {free : Addr → Prop} {cc : ByteArray} {maxL : Nat} {ret : Option FieldType} {hh : List (Nat × Nat × Nat × Nat)}
    (hy : plainName y.cls = true) (hw : ws = Cond.codeWith y cc maxL ret hh :: ws')
    (body : ∀ p e s m args below meth c s₁, BodyLoose p l y (headSpec ws rm) cc maxL ret e s m args below meth c s₁ → c.maxLocals = maxL → Pc args s →
      W p l e (headSpec ws rm).room s m args below meth c s.heap [] 0 0 (vx_MQ below Qc XC args s mc ms free) (entryFrame m args maxL)) : vx_Met l y ws rm Pc Qc XC mc ms free := by
  refine MetFree.of_bodyS (code := cc) (maxLocals := maxL) (ret := ret) hy ?_ ?_
  · intro args s m h hn
    obtain ⟨m9, meth, c, hn9, h1, h2, h3, h4, -, h5, h6, -⟩ := Cond.codeWith_spec (atoms_spec (ws := ws) h _ (by rw [hw]; exact List.mem_cons_self))
    cases hn.symm.trans hn9
    exact ⟨meth, c, h1, h2, h3, h4, h5, h6⟩
  · intro p e s m args below meth c s₁ B hml hP _
    have hh0 : s₁.heap = s.heap := by rw [B.state]; rfl
    obtain ⟨t, a1, o, b1, b2, b3⟩ := body p e s m args below meth c s₁ B hml hP s₁ hh0 (Stand.of_body B)
    exact ⟨t, o, a1, b1, b2, b3⟩
/-! ===== END ===== -/
end
section
/-! ===== BEGIN printed: names, fields, word lists, decode rows ===== -/
def RX0 : String := "TapePrinter$Row"
def TX0 : u_T := fun k => match k with
  | 0 => ("TapePrinter$Row", "values", "[I", true)
  | _ => ("TapePrinter$Row", "size", "I", false)
def tyX0 : Nat → FieldType := fun k => match k with
  | 0 => .array .int
  | _ => .int
abbrev wsX00 : List Cond := u_ws RX0 TX0 2
theorem nmX0 : ∀ a, a < 2 → ∀ b, b < 2 → a ≠ b → (TX0 a).2.1 ≠ (TX0 b).2.1 := by decide +kernel
theorem tyX0_ok : ∀ k, k < 2 → parseFieldDescriptor (TX0 k).2.2.1 = some (tyX0 k) := by decide +kernel
abbrev cX0_init : ByteArray := prog_2_method_1_code
def yX0_init : MethodName := ⟨RX0, "<init>", "(I)V"⟩
abbrev cX0_size : ByteArray := prog_2_method_2_code
def yX0_size : MethodName := ⟨RX0, "size", "()I"⟩
abbrev cX0_room : ByteArray := prog_2_method_3_code
def yX0_room : MethodName := ⟨RX0, "room", "()I"⟩
abbrev cX0_has : ByteArray := prog_2_method_4_code
def yX0_has : MethodName := ⟨RX0, "has", "(I)Z"⟩
abbrev cX0_at : ByteArray := prog_2_method_5_code
def yX0_at : MethodName := ⟨RX0, "at", "(I)I"⟩
abbrev cX0_change : ByteArray := prog_2_method_6_code
def yX0_change : MethodName := ⟨RX0, "change", "(II)V"⟩
abbrev cX0_add : ByteArray := prog_2_method_7_code
def yX0_add : MethodName := ⟨RX0, "add", "(I)Z"⟩
abbrev cX0_clear : ByteArray := prog_2_method_8_code
def yX0_clear : MethodName := ⟨RX0, "clear", "()V"⟩
def RX1 : String := "TapePrinter$Sheet"
def TX1 : u_T := fun k => match k with
  | 0 => ("TapePrinter$Sheet", "rows", "[LTapePrinter$Row;", true)
  | 1 => ("TapePrinter$Sheet", "first", "I", false)
  | _ => ("TapePrinter$Sheet", "used", "I", false)
def tyX1 : Nat → FieldType := fun k => match k with
  | 0 => .array (.object "TapePrinter$Row")
  | 1 => .int
  | _ => .int
abbrev wsX10 : List Cond := u_ws RX1 TX1 3
theorem nmX1 : ∀ a, a < 3 → ∀ b, b < 3 → a ≠ b → (TX1 a).2.1 ≠ (TX1 b).2.1 := by decide +kernel
theorem tyX1_ok : ∀ k, k < 3 → parseFieldDescriptor (TX1 k).2.2.1 = some (tyX1 k) := by decide +kernel
abbrev cX1_init : ByteArray := prog_3_method_1_code
def yX1_init : MethodName := ⟨RX1, "<init>", "()V"⟩
abbrev cX1_lines : ByteArray := prog_3_method_2_code
def yX1_lines : MethodName := ⟨RX1, "lines", "()I"⟩
abbrev cX1_row : ByteArray := prog_3_method_3_code
def yX1_row : MethodName := ⟨RX1, "row", "(I)LTapePrinter$Row;"⟩
abbrev cX1_add : ByteArray := prog_3_method_4_code
def yX1_add : MethodName := ⟨RX1, "add", "(I)Z"⟩
abbrev cX1_beginLine : ByteArray := prog_3_method_5_code
def yX1_beginLine : MethodName := ⟨RX1, "beginLine", "()V"⟩
abbrev cX1_characters : ByteArray := prog_3_method_6_code
def yX1_characters : MethodName := ⟨RX1, "characters", "()I"⟩
def RX2 : String := "TapePrinter$Wire"
def TX2 : u_T := fun k => match k with
  | 0 => ("TapePrinter$Wire", "late", "LTapePrinter$Row;", true)
  | 1 => ("TapePrinter$Wire", "garbled", "LTapePrinter$Row;", true)
  | _ => ("TapePrinter$Wire", "play", "I", false)
def tyX2 : Nat → FieldType := fun k => match k with
  | 0 => .object "TapePrinter$Row"
  | 1 => .object "TapePrinter$Row"
  | _ => .int
abbrev wsX20 : List Cond := u_ws RX2 TX2 3
theorem nmX2 : ∀ a, a < 3 → ∀ b, b < 3 → a ≠ b → (TX2 a).2.1 ≠ (TX2 b).2.1 := by decide +kernel
theorem tyX2_ok : ∀ k, k < 3 → parseFieldDescriptor (TX2 k).2.2.1 = some (tyX2 k) := by decide +kernel
abbrev cX2_init : ByteArray := prog_4_method_1_code
def yX2_init : MethodName := ⟨RX2, "<init>", "()V"⟩
abbrev cX2_play : ByteArray := prog_4_method_2_code
def yX2_play : MethodName := ⟨RX2, "play", "()I"⟩
abbrev cX2_changePlay : ByteArray := prog_4_method_3_code
def yX2_changePlay : MethodName := ⟨RX2, "changePlay", "(I)V"⟩
abbrev cX2_lateAt : ByteArray := prog_4_method_4_code
def yX2_lateAt : MethodName := ⟨RX2, "lateAt", "(I)I"⟩
abbrev cX2_change : ByteArray := prog_4_method_6_code
def yX2_change : MethodName := ⟨RX2, "change", "(III)V"⟩
abbrev cX2_readAs : ByteArray := prog_4_method_7_code
def yX2_readAs : MethodName := ⟨RX2, "readAs", "(II)I"⟩
def RX3 : String := "TapePrinter"
def TX3 : u_T := fun k => match k with
  | 0 => ("TapePrinter", "wire", "LTapePrinter$Wire;", true)
  | 1 => ("TapePrinter", "sheet", "LTapePrinter$Sheet;", true)
  | 2 => ("TapePrinter", "strip", "LTapePrinter$Row;", true)
  | 3 => ("TapePrinter", "reader", "I", false)
  | 4 => ("TapePrinter", "figures", "Z", false)
  | 5 => ("TapePrinter", "unshifts", "Z", false)
  | 6 => ("TapePrinter", "came", "I", false)
  | 7 => ("TapePrinter", "misread", "I", false)
  | 8 => ("TapePrinter", "lost", "I", false)
  | _ => ("TapePrinter", "bells", "I", false)
def tyX3 : Nat → FieldType := fun k => match k with
  | 0 => .object "TapePrinter$Wire"
  | 1 => .object "TapePrinter$Sheet"
  | 2 => .object "TapePrinter$Row"
  | 3 => .int
  | 4 => .boolean
  | 5 => .boolean
  | 6 => .int
  | 7 => .int
  | 8 => .int
  | _ => .int
abbrev wsX30 : List Cond := u_ws RX3 TX3 10
theorem nmX3 : ∀ a, a < 10 → ∀ b, b < 10 → a ≠ b → (TX3 a).2.1 ≠ (TX3 b).2.1 := by decide +kernel
theorem tyX3_ok : ∀ k, k < 10 → parseFieldDescriptor (TX3 k).2.2.1 = some (tyX3 k) := by decide +kernel
abbrev cX3_init : ByteArray := prog_1_method_1_code
def yX3_init : MethodName := ⟨RX3, "<init>", "()V"⟩
abbrev cX3_character : ByteArray := prog_1_method_3_code
def yX3_character : MethodName := ⟨RX3, "character", "(IZ)I"⟩
abbrev cX3_setLine : ByteArray := prog_1_method_6_code
def yX3_setLine : MethodName := ⟨RX3, "setLine", "(III)I"⟩
abbrev cX3_setPlay : ByteArray := prog_1_method_7_code
def yX3_setPlay : MethodName := ⟨RX3, "setPlay", "(I)I"⟩
abbrev cX3_setUnshift : ByteArray := prog_1_method_8_code
def yX3_setUnshift : MethodName := ⟨RX3, "setUnshift", "(Z)Z"⟩
abbrev cX3_receive : ByteArray := prog_1_method_9_code
def yX3_receive : MethodName := ⟨RX3, "receive", "(I)I"⟩
abbrev cX3_punch : ByteArray := prog_1_method_10_code
def yX3_punch : MethodName := ⟨RX3, "punch", "(I)I"⟩
abbrev cX3_type : ByteArray := prog_1_method_11_code
def yX3_type : MethodName := ⟨RX3, "type", "(I)I"⟩
abbrev cX3_rub : ByteArray := prog_1_method_12_code
def yX3_rub : MethodName := ⟨RX3, "rub", "(I)I"⟩
abbrev cX3_run : ByteArray := prog_1_method_13_code
def yX3_run : MethodName := ⟨RX3, "run", "(I)I"⟩
abbrev cX3_wind : ByteArray := prog_1_method_14_code
def yX3_wind : MethodName := ⟨RX3, "wind", "(I)I"⟩
abbrev cX3_tape : ByteArray := prog_1_method_15_code
def yX3_tape : MethodName := ⟨RX3, "tape", "(I)I"⟩
abbrev cX3_page : ByteArray := prog_1_method_16_code
def yX3_page : MethodName := ⟨RX3, "page", "(II)I"⟩
abbrev cX3_length : ByteArray := prog_1_method_17_code
def yX3_length : MethodName := ⟨RX3, "length", "(I)I"⟩
abbrev cX3_count : ByteArray := prog_1_method_18_code
def yX3_count : MethodName := ⟨RX3, "count", "(I)I"⟩
abbrev cX3_would : ByteArray := prog_1_method_19_code
def yX3_would : MethodName := ⟨RX3, "would", "(I)I"⟩
abbrev cX3_wrong : ByteArray := prog_1_method_20_code
def yX3_wrong : MethodName := ⟨RX3, "wrong", "()I"⟩
abbrev cX3_idle : ByteArray := prog_1_method_21_code
def yX3_idle : MethodName := ⟨RX3, "idle", "()I"⟩
abbrev cX3_prints : ByteArray := prog_1_method_22_code
def yX3_prints : MethodName := ⟨RX3, "prints", "(I)I"⟩
abbrev cX3_mean : ByteArray := prog_1_method_23_code
def yX3_mean : MethodName := ⟨RX3, "mean", "()D"⟩
abbrev cX3_counted : ByteArray := prog_1_method_27_code
def yX3_counted : MethodName := ⟨RX3, "counted", "(I)I"⟩
abbrev cX3_isCode : ByteArray := prog_1_method_28_code
def yX3_isCode : MethodName := ⟨RX3, "isCode", "(I)Z"⟩
abbrev cX3_isCharacter : ByteArray := prog_1_method_29_code
def yX3_isCharacter : MethodName := ⟨RX3, "isCharacter", "(I)Z"⟩
abbrev cX3_isFigure : ByteArray := prog_1_method_30_code
def yX3_isFigure : MethodName := ⟨RX3, "isFigure", "(I)Z"⟩
abbrev cX3_codeOf : ByteArray := prog_1_method_31_code
def yX3_codeOf : MethodName := ⟨RX3, "codeOf", "(I)I"⟩
abbrev cX3_characterOf : ByteArray := prog_1_method_32_code
def yX3_characterOf : MethodName := ⟨RX3, "characterOf", "(IZ)I"⟩
abbrev cX3_dependsOnShift : ByteArray := prog_1_method_33_code
def yX3_dependsOnShift : MethodName := ⟨RX3, "dependsOnShift", "(I)Z"⟩
abbrev cX3_characterInLetters : ByteArray := prog_1_method_34_code
def yX3_characterInLetters : MethodName := ⟨RX3, "characterInLetters", "(I)I"⟩
abbrev cX3_isShift : ByteArray := prog_1_method_35_code
def yX3_isShift : MethodName := ⟨RX3, "isShift", "(I)Z"⟩
abbrev cX3_figuresBehind : ByteArray := prog_1_method_36_code
def yX3_figuresBehind : MethodName := ⟨RX3, "figuresBehind", "(IZ)Z"⟩
abbrev cX3_shiftsToLetters : ByteArray := prog_1_method_37_code
def yX3_shiftsToLetters : MethodName := ⟨RX3, "shiftsToLetters", "(I)Z"⟩
abbrev cX3_figuresAhead : ByteArray := prog_1_method_38_code
def yX3_figuresAhead : MethodName := ⟨RX3, "figuresAhead", "(I)Z"⟩
abbrev cX3_figuresAtEnd : ByteArray := prog_1_method_39_code
def yX3_figuresAtEnd : MethodName := ⟨RX3, "figuresAtEnd", "()Z"⟩
abbrev cX3_servesBehind : ByteArray := prog_1_method_40_code
def yX3_servesBehind : MethodName := ⟨RX3, "servesBehind", "(I)Z"⟩
abbrev cX3_takeIn : ByteArray := prog_1_method_41_code
def yX3_takeIn : MethodName := ⟨RX3, "takeIn", "(I)I"⟩
abbrev cX3_obey : ByteArray := prog_1_method_42_code
def yX3_obey : MethodName := ⟨RX3, "obey", "(I)V"⟩
def RX4 : String := "TapePrinterLaw$Sim"
def TX4 : u_T := fun k => match k with
  | 0 => ("TapePrinterLaw$Sim", "letters", "[I", false)
  | 1 => ("TapePrinterLaw$Sim", "figures", "[I", false)
  | 2 => ("TapePrinterLaw$Sim", "page", "[[I", false)
  | 3 => ("TapePrinterLaw$Sim", "isFigures", "Z", false)
  | 4 => ("TapePrinterLaw$Sim", "unshifts", "Z", false)
  | 5 => ("TapePrinterLaw$Sim", "play", "I", false)
  | 6 => ("TapePrinterLaw$Sim", "late", "[I", false)
  | 7 => ("TapePrinterLaw$Sim", "garble", "[I", false)
  | 8 => ("TapePrinterLaw$Sim", "tape", "[I", false)
  | 9 => ("TapePrinterLaw$Sim", "reader", "I", false)
  | 10 => ("TapePrinterLaw$Sim", "came", "I", false)
  | 11 => ("TapePrinterLaw$Sim", "wrong", "I", false)
  | 12 => ("TapePrinterLaw$Sim", "lost", "I", false)
  | _ => ("TapePrinterLaw$Sim", "rang", "I", false)
def tyX4 : Nat → FieldType := fun k => match k with
  | 0 => .array .int
  | 1 => .array .int
  | 2 => .array (.array .int)
  | 3 => .boolean
  | 4 => .boolean
  | 5 => .int
  | 6 => .array .int
  | 7 => .array .int
  | 8 => .array .int
  | 9 => .int
  | 10 => .int
  | 11 => .int
  | 12 => .int
  | _ => .int
abbrev wsX40 : List Cond := u_ws RX4 TX4 14
theorem nmX4 : ∀ a, a < 14 → ∀ b, b < 14 → a ≠ b → (TX4 a).2.1 ≠ (TX4 b).2.1 := by decide +kernel
theorem tyX4_ok : ∀ k, k < 14 → parseFieldDescriptor (TX4 k).2.2.1 = some (tyX4 k) := by decide +kernel
abbrev cX4_init : ByteArray := prog_6_method_1_code
def yX4_init : MethodName := ⟨RX4, "<init>", "()V"⟩
abbrev cX4_more : ByteArray := prog_6_method_2_code
def yX4_more : MethodName := ⟨RX4, "more", "([II)[I"⟩
abbrev cX4_read : ByteArray := prog_6_method_3_code
def yX4_read : MethodName := ⟨RX4, "read", "(II)I"⟩
abbrev cX4_after : ByteArray := prog_6_method_4_code
def yX4_after : MethodName := ⟨RX4, "after", "(ZI)Z"⟩
abbrev cX4_come : ByteArray := prog_6_method_5_code
def yX4_come : MethodName := ⟨RX4, "come", "(I)I"⟩
abbrev cX4_shifts : ByteArray := prog_6_method_6_code
def yX4_shifts : MethodName := ⟨RX4, "shifts", "()[Z"⟩
abbrev cX4_isSame : ByteArray := prog_6_method_7_code
def yX4_isSame : MethodName := ⟨RX4, "isSame", "(LTapePrinter;)Z"⟩
def RX5 : String := "TapePrinterModel"
def TX5 : u_T := fun k => match k with
  | _ => ("", "", "", false)
def tyX5 : Nat → FieldType := fun k => match k with
  | _ => .int
abbrev wsX50 : List Cond := u_ws RX5 TX5 0
theorem nmX5 : ∀ a, a < 0 → ∀ b, b < 0 → a ≠ b → (TX5 a).2.1 ≠ (TX5 b).2.1 := by decide +kernel
theorem tyX5_ok : ∀ k, k < 0 → parseFieldDescriptor (TX5 k).2.2.1 = some (tyX5 k) := by decide +kernel
def RJ9 : String := "java/lang/Math"
def TJ9 : u_T := fun k => match k with
  | _ => ("", "", "", false)
def tyJ9 : Nat → FieldType := fun k => match k with
  | _ => .int
abbrev wsJ90 : List Cond := u_ws RJ9 TJ9 0
theorem nmJ9 : ∀ a, a < 0 → ∀ b, b < 0 → a ≠ b → (TJ9 a).2.1 ≠ (TJ9 b).2.1 := by decide +kernel
theorem tyJ9_ok : ∀ k, k < 0 → parseFieldDescriptor (TJ9 k).2.2.1 = some (tyJ9 k) := by decide +kernel
abbrev cJ9_min_7cf53 : ByteArray := prog_12_method_69_code
def yJ9_min_7cf53 : MethodName := ⟨RJ9, "min", "(II)I"⟩
def RJ0 : String := "java/lang/String"
def TJ0 : u_T := fun k => match k with
  | _ => ("", "", "", false)
def tyJ0 : Nat → FieldType := fun k => match k with
  | _ => .int
abbrev wsJ00 : List Cond := u_ws RJ0 TJ0 0
theorem nmJ0 : ∀ a, a < 0 → ∀ b, b < 0 → a ≠ b → (TJ0 a).2.1 ≠ (TJ0 b).2.1 := by decide +kernel
theorem tyJ0_ok : ∀ k, k < 0 → parseFieldDescriptor (TJ0 k).2.2.1 = some (tyJ0 k) := by decide +kernel
def RL : String := "TapePrinterLaw"
abbrev cL_below : ByteArray := method_2_code
def yL_below : MethodName := ⟨RL, "below", "(II)I"⟩
abbrev cL_cell : ByteArray := method_3_code
def yL_cell : MethodName := ⟨RL, "cell", "([II)I"⟩
abbrev cL_isType : ByteArray := method_4_code
def yL_isType : MethodName := ⟨RL, "isType", "(I)Z"⟩
abbrev cL_codes : ByteArray := method_5_code
def yL_codes : MethodName := ⟨RL, "codes", "()[I"⟩
abbrev cL_characters : ByteArray := method_6_code
def yL_characters : MethodName := ⟨RL, "characters", "(Z)[I"⟩
abbrev cL_act : ByteArray := method_7_code
def yL_act : MethodName := ⟨RL, "act", "(LTapePrinter;LTapePrinterLaw$Sim;I)Z"⟩
abbrev cL_build : ByteArray := method_8_code
def yL_build : MethodName := ⟨RL, "build", "(LTapePrinter;[I)LTapePrinterLaw$Sim;"⟩
abbrev cL_law : ByteArray := code
def yL_law : MethodName := ⟨RL, "law", "([I)Z"⟩
def wsX0_init : List Cond := .code yX0_init cX0_init 2 none :: ([.methodLink RX0 1 objectInit, .instanceMethod objectInit, .code objectInit ⟨#[0xb1]⟩ 1 none, .arrayClass .int, .fieldLink RX0 7 "TapePrinter$Row" "values" "[I"] ++ wsX00)
def wsX0_size : List Cond := .code yX0_size cX0_size 1 (some .int) :: ([.fieldLink RX0 13 "TapePrinter$Row" "size" "I"] ++ wsX00)
def wsX0_room : List Cond := .code yX0_room cX0_room 1 (some .int) :: ([.fieldLink RX0 7 "TapePrinter$Row" "values" "[I", .fieldLink RX0 13 "TapePrinter$Row" "size" "I"] ++ wsX00)
def wsX0_has : List Cond := .code yX0_has cX0_has 2 (some .boolean) :: ([.fieldLink RX0 13 "TapePrinter$Row" "size" "I", .fieldLink RX0 7 "TapePrinter$Row" "values" "[I"] ++ wsX00)
def wsX0_at : List Cond := .code yX0_at cX0_at 2 (some .int) :: ([.fieldLink RX0 7 "TapePrinter$Row" "values" "[I", .methodLink RX0 17 yX0_has, .instanceMethod yX0_has, .selects RX0 yX0_has yX0_has, .initialized RX0, .code yX0_has cX0_has 2 (some .boolean), .fieldLink RX0 13 "TapePrinter$Row" "size" "I"] ++ wsX00)
def wsX0_change : List Cond := .code yX0_change cX0_change 3 none :: ([.fieldLink RX0 7 "TapePrinter$Row" "values" "[I", .methodLink RX0 17 yX0_has, .instanceMethod yX0_has, .selects RX0 yX0_has yX0_has, .initialized RX0, .code yX0_has cX0_has 2 (some .boolean), .fieldLink RX0 13 "TapePrinter$Row" "size" "I"] ++ wsX00)
def wsX0_add : List Cond := .code yX0_add cX0_add 2 (some .boolean) :: ([.fieldLink RX0 13 "TapePrinter$Row" "size" "I", .fieldLink RX0 7 "TapePrinter$Row" "values" "[I"] ++ wsX00)
def wsX0_clear : List Cond := .code yX0_clear cX0_clear 1 none :: ([.fieldLink RX0 13 "TapePrinter$Row" "size" "I"] ++ wsX00)
def wsX1_init : List Cond := .code yX1_init cX1_init 2 none :: ([.methodLink RX1 3 objectInit, .instanceMethod objectInit, .code objectInit ⟨#[0xb1]⟩ 1 none, .classLink RX1 9 RX0, .fieldLink RX1 11 "TapePrinter$Sheet" "rows" "[LTapePrinter$Row;", .fieldLink RX1 17 "TapePrinter$Sheet" "used" "I", .instantiable RX0 2, .initialized RX0, .methodLink RX1 21 yX0_init, .instanceMethod yX0_init, .code yX0_init cX0_init 2 none, .methodLink RX0 1 objectInit, .arrayClass .int, .fieldLink RX0 7 "TapePrinter$Row" "values" "[I"] ++ wsX10 ++ wsX00)
def wsX1_lines : List Cond := .code yX1_lines cX1_lines 1 (some .int) :: ([.fieldLink RX1 17 "TapePrinter$Sheet" "used" "I"] ++ wsX10)
def wsX1_row : List Cond := .code yX1_row cX1_row 3 (some (.object "TapePrinter$Row")) :: ([.fieldLink RX1 17 "TapePrinter$Sheet" "used" "I", .fieldLink RX1 24 "TapePrinter$Sheet" "first" "I", .fieldLink RX1 11 "TapePrinter$Sheet" "rows" "[LTapePrinter$Row;"] ++ wsX10)
def wsX1_add : List Cond := .code yX1_add cX1_add 3 (some .boolean) :: ([.fieldLink RX1 17 "TapePrinter$Sheet" "used" "I", .methodLink RX1 27 yX1_row, .instanceMethod yX1_row, .selects RX1 yX1_row yX1_row, .initialized RX1, .code yX1_row cX1_row 3 (some (.object "TapePrinter$Row")), .fieldLink RX1 24 "TapePrinter$Sheet" "first" "I", .fieldLink RX1 11 "TapePrinter$Sheet" "rows" "[LTapePrinter$Row;", .methodLink RX1 31 yX0_add, .instanceMethod yX0_add, .selects RX0 yX0_add yX0_add, .initialized RX0, .code yX0_add cX0_add 2 (some .boolean), .fieldLink RX0 13 "TapePrinter$Row" "size" "I", .fieldLink RX0 7 "TapePrinter$Row" "values" "[I"] ++ wsX10 ++ wsX00)
def wsX1_beginLine : List Cond := .code yX1_beginLine cX1_beginLine 2 none :: ([.fieldLink RX1 17 "TapePrinter$Sheet" "used" "I", .fieldLink RX1 24 "TapePrinter$Sheet" "first" "I", .methodLink RX1 27 yX1_row, .instanceMethod yX1_row, .selects RX1 yX1_row yX1_row, .initialized RX1, .code yX1_row cX1_row 3 (some (.object "TapePrinter$Row")), .fieldLink RX1 11 "TapePrinter$Sheet" "rows" "[LTapePrinter$Row;", .methodLink RX1 35 yX0_clear, .instanceMethod yX0_clear, .selects RX0 yX0_clear yX0_clear, .initialized RX0, .code yX0_clear cX0_clear 1 none, .fieldLink RX0 13 "TapePrinter$Row" "size" "I"] ++ wsX10 ++ wsX00)
def wsX1_characters : List Cond := .code yX1_characters cX1_characters 4 (some .int) :: ([.fieldLink RX1 17 "TapePrinter$Sheet" "used" "I", .methodLink RX1 27 yX1_row, .instanceMethod yX1_row, .selects RX1 yX1_row yX1_row, .initialized RX1, .code yX1_row cX1_row 3 (some (.object "TapePrinter$Row")), .fieldLink RX1 24 "TapePrinter$Sheet" "first" "I", .fieldLink RX1 11 "TapePrinter$Sheet" "rows" "[LTapePrinter$Row;", .methodLink RX1 38 yX0_size, .instanceMethod yX0_size, .selects RX0 yX0_size yX0_size, .initialized RX0, .code yX0_size cX0_size 1 (some .int), .fieldLink RX0 13 "TapePrinter$Row" "size" "I"] ++ wsX10 ++ wsX00)
def wsX2_init : List Cond := .code yX2_init cX2_init 2 none :: ([.methodLink RX2 3 objectInit, .instanceMethod objectInit, .code objectInit ⟨#[0xb1]⟩ 1 none, .classLink RX2 9 RX0, .instantiable RX0 2, .initialized RX0, .fieldLink RX2 14 "TapePrinter$Wire" "late" "LTapePrinter$Row;", .fieldLink RX2 20 "TapePrinter$Wire" "garbled" "LTapePrinter$Row;", .methodLink RX2 11 yX0_init, .instanceMethod yX0_init, .code yX0_init cX0_init 2 none, .methodLink RX0 1 objectInit, .arrayClass .int, .fieldLink RX0 7 "TapePrinter$Row" "values" "[I", .methodLink RX2 23 yX0_add, .instanceMethod yX0_add, .selects RX0 yX0_add yX0_add, .code yX0_add cX0_add 2 (some .boolean), .fieldLink RX0 13 "TapePrinter$Row" "size" "I"] ++ wsX00 ++ wsX20)
def wsX2_play : List Cond := .code yX2_play cX2_play 1 (some .int) :: ([.fieldLink RX2 27 "TapePrinter$Wire" "play" "I"] ++ wsX20)
def wsX2_changePlay : List Cond := .code yX2_changePlay cX2_changePlay 2 none :: ([.fieldLink RX2 27 "TapePrinter$Wire" "play" "I"] ++ wsX20)
def wsX2_lateAt : List Cond := .code yX2_lateAt cX2_lateAt 2 (some .int) :: ([.fieldLink RX2 14 "TapePrinter$Wire" "late" "LTapePrinter$Row;", .methodLink RX2 31 yX0_at, .instanceMethod yX0_at, .selects RX0 yX0_at yX0_at, .initialized RX0, .code yX0_at cX0_at 2 (some .int), .fieldLink RX0 7 "TapePrinter$Row" "values" "[I", .methodLink RX0 17 yX0_has, .instanceMethod yX0_has, .selects RX0 yX0_has yX0_has, .code yX0_has cX0_has 2 (some .boolean), .fieldLink RX0 13 "TapePrinter$Row" "size" "I"] ++ wsX20 ++ wsX00)
def wsX2_change : List Cond := .code yX2_change cX2_change 4 none :: ([.fieldLink RX2 14 "TapePrinter$Wire" "late" "LTapePrinter$Row;", .fieldLink RX2 20 "TapePrinter$Wire" "garbled" "LTapePrinter$Row;", .methodLink RX2 35 yX0_change, .instanceMethod yX0_change, .selects RX0 yX0_change yX0_change, .initialized RX0, .code yX0_change cX0_change 3 none, .fieldLink RX0 7 "TapePrinter$Row" "values" "[I", .methodLink RX0 17 yX0_has, .instanceMethod yX0_has, .selects RX0 yX0_has yX0_has, .code yX0_has cX0_has 2 (some .boolean), .fieldLink RX0 13 "TapePrinter$Row" "size" "I"] ++ wsX20 ++ wsX00)
def wsX2_readAs : List Cond := .code yX2_readAs cX2_readAs 6 (some .int) :: ([.fieldLink RX2 20 "TapePrinter$Wire" "garbled" "LTapePrinter$Row;", .fieldLink RX2 14 "TapePrinter$Wire" "late" "LTapePrinter$Row;", .fieldLink RX2 27 "TapePrinter$Wire" "play" "I", .methodLink RX2 31 yX0_at, .instanceMethod yX0_at, .selects RX0 yX0_at yX0_at, .initialized RX0, .code yX0_at cX0_at 2 (some .int), .fieldLink RX0 7 "TapePrinter$Row" "values" "[I", .methodLink RX0 17 yX0_has, .instanceMethod yX0_has, .selects RX0 yX0_has yX0_has, .code yX0_has cX0_has 2 (some .boolean), .fieldLink RX0 13 "TapePrinter$Row" "size" "I"] ++ wsX20 ++ wsX00)
def wsX3_init_r1 : List Cond := [Cond.methodLink RX3 1 objectInit, Cond.instanceMethod objectInit, Cond.code objectInit ⟨#[0xb1]⟩ 1 none, Cond.classLink RX3 7 RX2, Cond.instantiable RX2 3, Cond.initialized RX2, Cond.fieldLink RX3 10 "TapePrinter" "wire" "LTapePrinter$Wire;", Cond.classLink RX3 16 RX1, Cond.instantiable RX1 3, Cond.initialized RX1, Cond.fieldLink RX3 19 "TapePrinter" "sheet" "LTapePrinter$Sheet;", Cond.classLink RX3 23 RX0, Cond.instantiable RX0 2, Cond.initialized RX0, Cond.fieldLink RX3 28 "TapePrinter" "strip" "LTapePrinter$Row;", Cond.methodLink RX3 9 yX2_init, Cond.instanceMethod yX2_init, Cond.code yX2_init cX2_init 2 none, Cond.methodLink RX2 3 objectInit, Cond.classLink RX2 9 RX0, Cond.fieldLink RX2 14 "TapePrinter$Wire" "late" "LTapePrinter$Row;", Cond.fieldLink RX2 20 "TapePrinter$Wire" "garbled" "LTapePrinter$Row;", Cond.methodLink RX2 11 yX0_init, Cond.instanceMethod yX0_init]
def wsX3_init_r2 : List Cond := [Cond.code yX0_init cX0_init 2 none, Cond.methodLink RX0 1 objectInit, Cond.arrayClass .int, Cond.fieldLink RX0 7 "TapePrinter$Row" "values" "[I", Cond.methodLink RX2 23 yX0_add, Cond.instanceMethod yX0_add, Cond.selects RX0 yX0_add yX0_add, Cond.code yX0_add cX0_add 2 (some .boolean), Cond.fieldLink RX0 13 "TapePrinter$Row" "size" "I", Cond.methodLink RX3 18 yX1_init, Cond.instanceMethod yX1_init, Cond.code yX1_init cX1_init 2 none, Cond.methodLink RX1 3 objectInit, Cond.classLink RX1 9 RX0, Cond.fieldLink RX1 11 "TapePrinter$Sheet" "rows" "[LTapePrinter$Row;", Cond.fieldLink RX1 17 "TapePrinter$Sheet" "used" "I", Cond.methodLink RX1 21 yX0_init, Cond.methodLink RX3 25 yX0_init]
def wsX3_init : List Cond := .code yX3_init cX3_init 1 none :: ((wsX3_init_r1 ++ wsX3_init_r2) ++ wsX20 ++ wsX30 ++ wsX10 ++ wsX00)
def wsX3_isCode : List Cond := .code yX3_isCode cX3_isCode 1 (some .boolean) :: ([])
def wsX3_characterInLetters : List Cond := .code yX3_characterInLetters cX3_characterInLetters 1 (some .int) :: ([.fieldLink RX3 214 "TapePrinter" "CHARACTERS" "[I"])
def wsX3_dependsOnShift : List Cond := .code yX3_dependsOnShift cX3_dependsOnShift 2 (some .boolean) :: ([.methodLink RX3 211 yX3_characterInLetters, .static yX3_characterInLetters, .initialized RX3, .code yX3_characterInLetters cX3_characterInLetters 1 (some .int), .fieldLink RX3 214 "TapePrinter" "CHARACTERS" "[I"])
def wsX3_characterOf : List Cond := .code yX3_characterOf cX3_characterOf 3 (some .int) :: ([.methodLink RX3 211 yX3_characterInLetters, .static yX3_characterInLetters, .initialized RX3, .code yX3_characterInLetters cX3_characterInLetters 1 (some .int), .fieldLink RX3 214 "TapePrinter" "CHARACTERS" "[I", .methodLink RX3 113 yX3_dependsOnShift, .static yX3_dependsOnShift, .code yX3_dependsOnShift cX3_dependsOnShift 2 (some .boolean)])
def wsX3_character : List Cond := .code yX3_character cX3_character 3 (some .int) :: ([.classLink RX3 36 "java/lang/IndexOutOfBoundsException", .initialized "java/lang/IndexOutOfBoundsException", .methodLink RX3 47 yX3_isCode, .static yX3_isCode, .initialized RX3, .code yX3_isCode cX3_isCode 1 (some .boolean), .methodLink RX3 52 yX3_characterOf, .static yX3_characterOf, .code yX3_characterOf cX3_characterOf 3 (some .int), .methodLink RX3 211 yX3_characterInLetters, .static yX3_characterInLetters, .code yX3_characterInLetters cX3_characterInLetters 1 (some .int), .fieldLink RX3 214 "TapePrinter" "CHARACTERS" "[I", .methodLink RX3 113 yX3_dependsOnShift, .static yX3_dependsOnShift, .code yX3_dependsOnShift cX3_dependsOnShift 2 (some .boolean)] ++ (vx_atS RX3 40 "java/lang/IndexOutOfBoundsException" ["java/lang/RuntimeException", "java/lang/Exception"]).filter goodWord)
def wsX3_setLine_r1 : List Cond := [Cond.classLink RX3 36 "java/lang/IndexOutOfBoundsException", Cond.initialized "java/lang/IndexOutOfBoundsException", Cond.classLink RX3 67 "java/lang/IllegalArgumentException", Cond.initialized "java/lang/IllegalArgumentException", Cond.fieldLink RX3 10 "TapePrinter" "wire" "LTapePrinter$Wire;", Cond.methodLink RX3 47 yX3_isCode, Cond.static yX3_isCode, Cond.initialized RX3, Cond.code yX3_isCode cX3_isCode 1 (some .boolean), Cond.methodLink RX3 74 yX2_lateAt, Cond.instanceMethod yX2_lateAt, Cond.selects RX2 yX2_lateAt yX2_lateAt, Cond.initialized RX2, Cond.code yX2_lateAt cX2_lateAt 2 (some .int), Cond.fieldLink RX2 14 "TapePrinter$Wire" "late" "LTapePrinter$Row;", Cond.methodLink RX2 31 yX0_at, Cond.instanceMethod yX0_at, Cond.selects RX0 yX0_at yX0_at, Cond.initialized RX0, Cond.code yX0_at cX0_at 2 (some .int), Cond.fieldLink RX0 7 "TapePrinter$Row" "values" "[I", Cond.methodLink RX0 17 yX0_has, Cond.instanceMethod yX0_has, Cond.selects RX0 yX0_has yX0_has]
def wsX3_setLine_r2 : List Cond := [Cond.code yX0_has cX0_has 2 (some .boolean), Cond.fieldLink RX0 13 "TapePrinter$Row" "size" "I", Cond.methodLink RX3 77 yX2_change, Cond.instanceMethod yX2_change, Cond.selects RX2 yX2_change yX2_change, Cond.code yX2_change cX2_change 4 none, Cond.fieldLink RX2 20 "TapePrinter$Wire" "garbled" "LTapePrinter$Row;", Cond.methodLink RX2 35 yX0_change, Cond.instanceMethod yX0_change, Cond.selects RX0 yX0_change yX0_change, Cond.code yX0_change cX0_change 3 none]
def wsX3_setLine : List Cond := .code yX3_setLine cX3_setLine 5 (some .int) :: ((wsX3_setLine_r1 ++ wsX3_setLine_r2) ++ wsX30 ++ wsX20 ++ wsX00 ++ (vx_atS RX3 40 "java/lang/IndexOutOfBoundsException" ["java/lang/RuntimeException", "java/lang/Exception"]).filter goodWord ++ (vx_atS RX3 71 "java/lang/IllegalArgumentException" ["java/lang/RuntimeException", "java/lang/Exception"]).filter goodWord)
def wsX3_setPlay : List Cond := .code yX3_setPlay cX3_setPlay 3 (some .int) :: ([.classLink RX3 67 "java/lang/IllegalArgumentException", .initialized "java/lang/IllegalArgumentException", .fieldLink RX3 10 "TapePrinter" "wire" "LTapePrinter$Wire;", .methodLink RX3 83 yX2_play, .instanceMethod yX2_play, .selects RX2 yX2_play yX2_play, .initialized RX2, .code yX2_play cX2_play 1 (some .int), .fieldLink RX2 27 "TapePrinter$Wire" "play" "I", .methodLink RX3 87 yX2_changePlay, .instanceMethod yX2_changePlay, .selects RX2 yX2_changePlay yX2_changePlay, .code yX2_changePlay cX2_changePlay 2 none] ++ wsX30 ++ wsX20 ++ (vx_atS RX3 71 "java/lang/IllegalArgumentException" ["java/lang/RuntimeException", "java/lang/Exception"]).filter goodWord)
def wsX3_setUnshift : List Cond := .code yX3_setUnshift cX3_setUnshift 3 (some .boolean) :: ([.fieldLink RX3 90 "TapePrinter" "unshifts" "Z"] ++ wsX30)
def wsX3_shiftsToLetters : List Cond := .code yX3_shiftsToLetters cX3_shiftsToLetters 2 (some .boolean) :: ([.fieldLink RX3 90 "TapePrinter" "unshifts" "Z"] ++ wsX30)
def wsX3_figuresBehind : List Cond := .code yX3_figuresBehind cX3_figuresBehind 3 (some .boolean) :: ([.methodLink RX3 217 yX3_shiftsToLetters, .instanceMethod yX3_shiftsToLetters, .selects RX3 yX3_shiftsToLetters yX3_shiftsToLetters, .initialized RX3, .code yX3_shiftsToLetters cX3_shiftsToLetters 2 (some .boolean), .fieldLink RX3 90 "TapePrinter" "unshifts" "Z"] ++ wsX30)
def wsX3_obey_r1 : List Cond := [Cond.fieldLink RX3 61 "TapePrinter" "figures" "Z", Cond.fieldLink RX3 19 "TapePrinter" "sheet" "LTapePrinter$Sheet;", Cond.fieldLink RX3 201 "TapePrinter" "lost" "I", Cond.fieldLink RX3 204 "TapePrinter" "bells" "I", Cond.methodLink RX3 52 yX3_characterOf, Cond.static yX3_characterOf, Cond.initialized RX3, Cond.code yX3_characterOf cX3_characterOf 3 (some .int), Cond.methodLink RX3 211 yX3_characterInLetters, Cond.static yX3_characterInLetters, Cond.code yX3_characterInLetters cX3_characterInLetters 1 (some .int), Cond.fieldLink RX3 214 "TapePrinter" "CHARACTERS" "[I", Cond.methodLink RX3 113 yX3_dependsOnShift, Cond.static yX3_dependsOnShift, Cond.code yX3_dependsOnShift cX3_dependsOnShift 2 (some .boolean), Cond.methodLink RX3 223 yX1_beginLine, Cond.instanceMethod yX1_beginLine, Cond.selects RX1 yX1_beginLine yX1_beginLine, Cond.initialized RX1, Cond.code yX1_beginLine cX1_beginLine 2 none, Cond.fieldLink RX1 17 "TapePrinter$Sheet" "used" "I", Cond.fieldLink RX1 24 "TapePrinter$Sheet" "first" "I", Cond.methodLink RX1 27 yX1_row, Cond.instanceMethod yX1_row]
def wsX3_obey_r2 : List Cond := [Cond.selects RX1 yX1_row yX1_row, Cond.code yX1_row cX1_row 3 (some (.object "TapePrinter$Row")), Cond.fieldLink RX1 11 "TapePrinter$Sheet" "rows" "[LTapePrinter$Row;", Cond.methodLink RX1 35 yX0_clear, Cond.instanceMethod yX0_clear, Cond.selects RX0 yX0_clear yX0_clear, Cond.initialized RX0, Cond.code yX0_clear cX0_clear 1 none, Cond.fieldLink RX0 13 "TapePrinter$Row" "size" "I", Cond.methodLink RX3 226 yX1_add, Cond.instanceMethod yX1_add, Cond.selects RX1 yX1_add yX1_add, Cond.code yX1_add cX1_add 3 (some .boolean), Cond.methodLink RX1 31 yX0_add, Cond.instanceMethod yX0_add, Cond.selects RX0 yX0_add yX0_add, Cond.code yX0_add cX0_add 2 (some .boolean), Cond.fieldLink RX0 7 "TapePrinter$Row" "values" "[I", Cond.methodLink RX3 164 yX3_figuresBehind, Cond.instanceMethod yX3_figuresBehind, Cond.selects RX3 yX3_figuresBehind yX3_figuresBehind, Cond.code yX3_figuresBehind cX3_figuresBehind 3 (some .boolean), Cond.methodLink RX3 217 yX3_shiftsToLetters, Cond.instanceMethod yX3_shiftsToLetters]
def wsX3_obey_r3 : List Cond := [Cond.selects RX3 yX3_shiftsToLetters yX3_shiftsToLetters, Cond.code yX3_shiftsToLetters cX3_shiftsToLetters 2 (some .boolean), Cond.fieldLink RX3 90 "TapePrinter" "unshifts" "Z"]
def wsX3_obey : List Cond := .code yX3_obey cX3_obey 3 none :: ((wsX3_obey_r1 ++ (wsX3_obey_r2 ++ wsX3_obey_r3)) ++ wsX30 ++ wsX10 ++ wsX00)
def wsX3_takeIn_r1 : List Cond := [Cond.fieldLink RX3 10 "TapePrinter" "wire" "LTapePrinter$Wire;", Cond.fieldLink RX3 158 "TapePrinter" "came" "I", Cond.fieldLink RX3 198 "TapePrinter" "misread" "I", Cond.methodLink RX3 161 yX2_readAs, Cond.instanceMethod yX2_readAs, Cond.selects RX2 yX2_readAs yX2_readAs, Cond.initialized RX2, Cond.code yX2_readAs cX2_readAs 6 (some .int), Cond.fieldLink RX2 20 "TapePrinter$Wire" "garbled" "LTapePrinter$Row;", Cond.fieldLink RX2 14 "TapePrinter$Wire" "late" "LTapePrinter$Row;", Cond.fieldLink RX2 27 "TapePrinter$Wire" "play" "I", Cond.methodLink RX2 31 yX0_at, Cond.instanceMethod yX0_at, Cond.selects RX0 yX0_at yX0_at, Cond.initialized RX0, Cond.code yX0_at cX0_at 2 (some .int), Cond.fieldLink RX0 7 "TapePrinter$Row" "values" "[I", Cond.methodLink RX0 17 yX0_has, Cond.instanceMethod yX0_has, Cond.selects RX0 yX0_has yX0_has, Cond.code yX0_has cX0_has 2 (some .boolean), Cond.fieldLink RX0 13 "TapePrinter$Row" "size" "I", Cond.methodLink RX3 220 yX3_obey, Cond.instanceMethod yX3_obey]
def wsX3_takeIn_r2 : List Cond := [Cond.selects RX3 yX3_obey yX3_obey, Cond.initialized RX3, Cond.code yX3_obey cX3_obey 3 none, Cond.fieldLink RX3 61 "TapePrinter" "figures" "Z", Cond.fieldLink RX3 19 "TapePrinter" "sheet" "LTapePrinter$Sheet;", Cond.fieldLink RX3 201 "TapePrinter" "lost" "I", Cond.fieldLink RX3 204 "TapePrinter" "bells" "I", Cond.methodLink RX3 52 yX3_characterOf, Cond.static yX3_characterOf, Cond.code yX3_characterOf cX3_characterOf 3 (some .int), Cond.methodLink RX3 211 yX3_characterInLetters, Cond.static yX3_characterInLetters, Cond.code yX3_characterInLetters cX3_characterInLetters 1 (some .int), Cond.fieldLink RX3 214 "TapePrinter" "CHARACTERS" "[I", Cond.methodLink RX3 113 yX3_dependsOnShift, Cond.static yX3_dependsOnShift, Cond.code yX3_dependsOnShift cX3_dependsOnShift 2 (some .boolean), Cond.methodLink RX3 223 yX1_beginLine, Cond.instanceMethod yX1_beginLine, Cond.selects RX1 yX1_beginLine yX1_beginLine, Cond.initialized RX1, Cond.code yX1_beginLine cX1_beginLine 2 none, Cond.fieldLink RX1 17 "TapePrinter$Sheet" "used" "I", Cond.fieldLink RX1 24 "TapePrinter$Sheet" "first" "I"]
def wsX3_takeIn_r3 : List Cond := [Cond.methodLink RX1 27 yX1_row, Cond.instanceMethod yX1_row, Cond.selects RX1 yX1_row yX1_row, Cond.code yX1_row cX1_row 3 (some (.object "TapePrinter$Row")), Cond.fieldLink RX1 11 "TapePrinter$Sheet" "rows" "[LTapePrinter$Row;", Cond.methodLink RX1 35 yX0_clear, Cond.instanceMethod yX0_clear, Cond.selects RX0 yX0_clear yX0_clear, Cond.code yX0_clear cX0_clear 1 none, Cond.methodLink RX3 226 yX1_add, Cond.instanceMethod yX1_add, Cond.selects RX1 yX1_add yX1_add, Cond.code yX1_add cX1_add 3 (some .boolean), Cond.methodLink RX1 31 yX0_add, Cond.instanceMethod yX0_add, Cond.selects RX0 yX0_add yX0_add, Cond.code yX0_add cX0_add 2 (some .boolean), Cond.methodLink RX3 164 yX3_figuresBehind, Cond.instanceMethod yX3_figuresBehind, Cond.selects RX3 yX3_figuresBehind yX3_figuresBehind, Cond.code yX3_figuresBehind cX3_figuresBehind 3 (some .boolean), Cond.methodLink RX3 217 yX3_shiftsToLetters, Cond.instanceMethod yX3_shiftsToLetters, Cond.selects RX3 yX3_shiftsToLetters yX3_shiftsToLetters]
def wsX3_takeIn_r4 : List Cond := [Cond.code yX3_shiftsToLetters cX3_shiftsToLetters 2 (some .boolean), Cond.fieldLink RX3 90 "TapePrinter" "unshifts" "Z"]
def wsX3_takeIn : List Cond := .code yX3_takeIn cX3_takeIn 3 (some .int) :: ((wsX3_takeIn_r1 ++ (wsX3_takeIn_r2 ++ (wsX3_takeIn_r3 ++ wsX3_takeIn_r4))) ++ wsX30 ++ wsX20 ++ wsX00 ++ wsX10)
def wsX3_receive_r1 : List Cond := [Cond.classLink RX3 36 "java/lang/IndexOutOfBoundsException", Cond.initialized "java/lang/IndexOutOfBoundsException", Cond.methodLink RX3 47 yX3_isCode, Cond.static yX3_isCode, Cond.initialized RX3, Cond.code yX3_isCode cX3_isCode 1 (some .boolean), Cond.methodLink RX3 93 yX3_takeIn, Cond.instanceMethod yX3_takeIn, Cond.selects RX3 yX3_takeIn yX3_takeIn, Cond.code yX3_takeIn cX3_takeIn 3 (some .int), Cond.fieldLink RX3 10 "TapePrinter" "wire" "LTapePrinter$Wire;", Cond.fieldLink RX3 158 "TapePrinter" "came" "I", Cond.fieldLink RX3 198 "TapePrinter" "misread" "I", Cond.methodLink RX3 161 yX2_readAs, Cond.instanceMethod yX2_readAs, Cond.selects RX2 yX2_readAs yX2_readAs, Cond.initialized RX2, Cond.code yX2_readAs cX2_readAs 6 (some .int), Cond.fieldLink RX2 20 "TapePrinter$Wire" "garbled" "LTapePrinter$Row;", Cond.fieldLink RX2 14 "TapePrinter$Wire" "late" "LTapePrinter$Row;", Cond.fieldLink RX2 27 "TapePrinter$Wire" "play" "I", Cond.methodLink RX2 31 yX0_at, Cond.instanceMethod yX0_at, Cond.selects RX0 yX0_at yX0_at]
def wsX3_receive_r2 : List Cond := [Cond.initialized RX0, Cond.code yX0_at cX0_at 2 (some .int), Cond.fieldLink RX0 7 "TapePrinter$Row" "values" "[I", Cond.methodLink RX0 17 yX0_has, Cond.instanceMethod yX0_has, Cond.selects RX0 yX0_has yX0_has, Cond.code yX0_has cX0_has 2 (some .boolean), Cond.fieldLink RX0 13 "TapePrinter$Row" "size" "I", Cond.methodLink RX3 220 yX3_obey, Cond.instanceMethod yX3_obey, Cond.selects RX3 yX3_obey yX3_obey, Cond.code yX3_obey cX3_obey 3 none, Cond.fieldLink RX3 61 "TapePrinter" "figures" "Z", Cond.fieldLink RX3 19 "TapePrinter" "sheet" "LTapePrinter$Sheet;", Cond.fieldLink RX3 201 "TapePrinter" "lost" "I", Cond.fieldLink RX3 204 "TapePrinter" "bells" "I", Cond.methodLink RX3 52 yX3_characterOf, Cond.static yX3_characterOf, Cond.code yX3_characterOf cX3_characterOf 3 (some .int), Cond.methodLink RX3 211 yX3_characterInLetters, Cond.static yX3_characterInLetters, Cond.code yX3_characterInLetters cX3_characterInLetters 1 (some .int), Cond.fieldLink RX3 214 "TapePrinter" "CHARACTERS" "[I", Cond.methodLink RX3 113 yX3_dependsOnShift]
def wsX3_receive_r3 : List Cond := [Cond.static yX3_dependsOnShift, Cond.code yX3_dependsOnShift cX3_dependsOnShift 2 (some .boolean), Cond.methodLink RX3 223 yX1_beginLine, Cond.instanceMethod yX1_beginLine, Cond.selects RX1 yX1_beginLine yX1_beginLine, Cond.initialized RX1, Cond.code yX1_beginLine cX1_beginLine 2 none, Cond.fieldLink RX1 17 "TapePrinter$Sheet" "used" "I", Cond.fieldLink RX1 24 "TapePrinter$Sheet" "first" "I", Cond.methodLink RX1 27 yX1_row, Cond.instanceMethod yX1_row, Cond.selects RX1 yX1_row yX1_row, Cond.code yX1_row cX1_row 3 (some (.object "TapePrinter$Row")), Cond.fieldLink RX1 11 "TapePrinter$Sheet" "rows" "[LTapePrinter$Row;", Cond.methodLink RX1 35 yX0_clear, Cond.instanceMethod yX0_clear, Cond.selects RX0 yX0_clear yX0_clear, Cond.code yX0_clear cX0_clear 1 none, Cond.methodLink RX3 226 yX1_add, Cond.instanceMethod yX1_add, Cond.selects RX1 yX1_add yX1_add, Cond.code yX1_add cX1_add 3 (some .boolean), Cond.methodLink RX1 31 yX0_add, Cond.instanceMethod yX0_add]
def wsX3_receive_r4 : List Cond := [Cond.selects RX0 yX0_add yX0_add, Cond.code yX0_add cX0_add 2 (some .boolean), Cond.methodLink RX3 164 yX3_figuresBehind, Cond.instanceMethod yX3_figuresBehind, Cond.selects RX3 yX3_figuresBehind yX3_figuresBehind, Cond.code yX3_figuresBehind cX3_figuresBehind 3 (some .boolean), Cond.methodLink RX3 217 yX3_shiftsToLetters, Cond.instanceMethod yX3_shiftsToLetters, Cond.selects RX3 yX3_shiftsToLetters yX3_shiftsToLetters, Cond.code yX3_shiftsToLetters cX3_shiftsToLetters 2 (some .boolean), Cond.fieldLink RX3 90 "TapePrinter" "unshifts" "Z"]
def wsX3_receive : List Cond := .code yX3_receive cX3_receive 2 (some .int) :: ((wsX3_receive_r1 ++ (wsX3_receive_r2 ++ (wsX3_receive_r3 ++ wsX3_receive_r4))) ++ wsX30 ++ wsX20 ++ wsX00 ++ wsX10 ++ (vx_atS RX3 40 "java/lang/IndexOutOfBoundsException" ["java/lang/RuntimeException", "java/lang/Exception"]).filter goodWord)
def wsX3_punch : List Cond := .code yX3_punch cX3_punch 2 (some .int) :: ([.classLink RX3 36 "java/lang/IndexOutOfBoundsException", .initialized "java/lang/IndexOutOfBoundsException", .classLink RX3 99 "java/lang/IllegalStateException", .initialized "java/lang/IllegalStateException", .fieldLink RX3 28 "TapePrinter" "strip" "LTapePrinter$Row;", .methodLink RX3 47 yX3_isCode, .static yX3_isCode, .initialized RX3, .code yX3_isCode cX3_isCode 1 (some .boolean), .methodLink RX3 96 yX0_room, .instanceMethod yX0_room, .selects RX0 yX0_room yX0_room, .initialized RX0, .code yX0_room cX0_room 1 (some .int), .fieldLink RX0 7 "TapePrinter$Row" "values" "[I", .fieldLink RX0 13 "TapePrinter$Row" "size" "I", .methodLink RX3 104 yX0_add, .instanceMethod yX0_add, .selects RX0 yX0_add yX0_add, .code yX0_add cX0_add 2 (some .boolean), .methodLink RX3 107 yX0_size, .instanceMethod yX0_size, .selects RX0 yX0_size yX0_size, .code yX0_size cX0_size 1 (some .int)] ++ wsX30 ++ wsX00 ++ (vx_atS RX3 40 "java/lang/IndexOutOfBoundsException" ["java/lang/RuntimeException", "java/lang/Exception"]).filter goodWord ++ (vx_atS RX3 103 "java/lang/IllegalStateException" ["java/lang/RuntimeException", "java/lang/Exception"]).filter goodWord)
def wsX3_isCharacter : List Cond := .code yX3_isCharacter cX3_isCharacter 1 (some .boolean) :: ([])
def wsX3_isFigure : List Cond := .code yX3_isFigure cX3_isFigure 1 (some .boolean) :: ([])
def wsX3_codeOf : List Cond := .code yX3_codeOf cX3_codeOf 1 (some .int) :: ([.fieldLink RX3 207 "TapePrinter" "CODES" "[I"])
def wsX3_figuresAhead_r1 : List Cond := [Cond.fieldLink RX3 28 "TapePrinter" "strip" "LTapePrinter$Row;", Cond.methodLink RX3 107 yX0_size, Cond.instanceMethod yX0_size, Cond.selects RX0 yX0_size yX0_size, Cond.initialized RX0, Cond.code yX0_size cX0_size 1 (some .int), Cond.fieldLink RX0 13 "TapePrinter$Row" "size" "I", Cond.methodLink RX3 127 yX0_at, Cond.instanceMethod yX0_at, Cond.selects RX0 yX0_at yX0_at, Cond.code yX0_at cX0_at 2 (some .int), Cond.fieldLink RX0 7 "TapePrinter$Row" "values" "[I", Cond.methodLink RX0 17 yX0_has, Cond.instanceMethod yX0_has, Cond.selects RX0 yX0_has yX0_has, Cond.code yX0_has cX0_has 2 (some .boolean), Cond.methodLink RX3 164 yX3_figuresBehind, Cond.instanceMethod yX3_figuresBehind, Cond.selects RX3 yX3_figuresBehind yX3_figuresBehind, Cond.initialized RX3, Cond.code yX3_figuresBehind cX3_figuresBehind 3 (some .boolean), Cond.methodLink RX3 217 yX3_shiftsToLetters, Cond.instanceMethod yX3_shiftsToLetters, Cond.selects RX3 yX3_shiftsToLetters yX3_shiftsToLetters]
def wsX3_figuresAhead_r2 : List Cond := [Cond.code yX3_shiftsToLetters cX3_shiftsToLetters 2 (some .boolean), Cond.fieldLink RX3 90 "TapePrinter" "unshifts" "Z"]
def wsX3_figuresAhead : List Cond := .code yX3_figuresAhead cX3_figuresAhead 4 (some .boolean) :: ((wsX3_figuresAhead_r1 ++ wsX3_figuresAhead_r2) ++ wsX30 ++ wsX00)
def wsX3_figuresAtEnd_r1 : List Cond := [Cond.fieldLink RX3 28 "TapePrinter" "strip" "LTapePrinter$Row;", Cond.methodLink RX3 107 yX0_size, Cond.instanceMethod yX0_size, Cond.selects RX0 yX0_size yX0_size, Cond.initialized RX0, Cond.code yX0_size cX0_size 1 (some .int), Cond.fieldLink RX0 13 "TapePrinter$Row" "size" "I", Cond.methodLink RX3 174 yX3_figuresAhead, Cond.instanceMethod yX3_figuresAhead, Cond.selects RX3 yX3_figuresAhead yX3_figuresAhead, Cond.initialized RX3, Cond.code yX3_figuresAhead cX3_figuresAhead 4 (some .boolean), Cond.methodLink RX3 127 yX0_at, Cond.instanceMethod yX0_at, Cond.selects RX0 yX0_at yX0_at, Cond.code yX0_at cX0_at 2 (some .int), Cond.fieldLink RX0 7 "TapePrinter$Row" "values" "[I", Cond.methodLink RX0 17 yX0_has, Cond.instanceMethod yX0_has, Cond.selects RX0 yX0_has yX0_has, Cond.code yX0_has cX0_has 2 (some .boolean), Cond.methodLink RX3 164 yX3_figuresBehind, Cond.instanceMethod yX3_figuresBehind, Cond.selects RX3 yX3_figuresBehind yX3_figuresBehind]
def wsX3_figuresAtEnd_r2 : List Cond := [Cond.code yX3_figuresBehind cX3_figuresBehind 3 (some .boolean), Cond.methodLink RX3 217 yX3_shiftsToLetters, Cond.instanceMethod yX3_shiftsToLetters, Cond.selects RX3 yX3_shiftsToLetters yX3_shiftsToLetters, Cond.code yX3_shiftsToLetters cX3_shiftsToLetters 2 (some .boolean), Cond.fieldLink RX3 90 "TapePrinter" "unshifts" "Z"]
def wsX3_figuresAtEnd : List Cond := .code yX3_figuresAtEnd cX3_figuresAtEnd 1 (some .boolean) :: ((wsX3_figuresAtEnd_r1 ++ wsX3_figuresAtEnd_r2) ++ wsX30 ++ wsX00)
def wsX3_type_r1 : List Cond := [Cond.classLink RX3 36 "java/lang/IndexOutOfBoundsException", Cond.initialized "java/lang/IndexOutOfBoundsException", Cond.classLink RX3 99 "java/lang/IllegalStateException", Cond.initialized "java/lang/IllegalStateException", Cond.fieldLink RX3 28 "TapePrinter" "strip" "LTapePrinter$Row;", Cond.methodLink RX3 32 yX3_isCharacter, Cond.static yX3_isCharacter, Cond.initialized RX3, Cond.code yX3_isCharacter cX3_isCharacter 1 (some .boolean), Cond.methodLink RX3 110 yX3_isFigure, Cond.static yX3_isFigure, Cond.code yX3_isFigure cX3_isFigure 1 (some .boolean), Cond.methodLink RX3 43 yX3_codeOf, Cond.static yX3_codeOf, Cond.code yX3_codeOf cX3_codeOf 1 (some .int), Cond.fieldLink RX3 207 "TapePrinter" "CODES" "[I", Cond.methodLink RX3 113 yX3_dependsOnShift, Cond.static yX3_dependsOnShift, Cond.code yX3_dependsOnShift cX3_dependsOnShift 2 (some .boolean), Cond.methodLink RX3 211 yX3_characterInLetters, Cond.static yX3_characterInLetters, Cond.code yX3_characterInLetters cX3_characterInLetters 1 (some .int), Cond.fieldLink RX3 214 "TapePrinter" "CHARACTERS" "[I", Cond.methodLink RX3 116 yX3_figuresAtEnd]
def wsX3_type_r2 : List Cond := [Cond.instanceMethod yX3_figuresAtEnd, Cond.selects RX3 yX3_figuresAtEnd yX3_figuresAtEnd, Cond.code yX3_figuresAtEnd cX3_figuresAtEnd 1 (some .boolean), Cond.methodLink RX3 107 yX0_size, Cond.instanceMethod yX0_size, Cond.selects RX0 yX0_size yX0_size, Cond.initialized RX0, Cond.code yX0_size cX0_size 1 (some .int), Cond.fieldLink RX0 13 "TapePrinter$Row" "size" "I", Cond.methodLink RX3 174 yX3_figuresAhead, Cond.instanceMethod yX3_figuresAhead, Cond.selects RX3 yX3_figuresAhead yX3_figuresAhead, Cond.code yX3_figuresAhead cX3_figuresAhead 4 (some .boolean), Cond.methodLink RX3 127 yX0_at, Cond.instanceMethod yX0_at, Cond.selects RX0 yX0_at yX0_at, Cond.code yX0_at cX0_at 2 (some .int), Cond.fieldLink RX0 7 "TapePrinter$Row" "values" "[I", Cond.methodLink RX0 17 yX0_has, Cond.instanceMethod yX0_has, Cond.selects RX0 yX0_has yX0_has, Cond.code yX0_has cX0_has 2 (some .boolean), Cond.methodLink RX3 164 yX3_figuresBehind, Cond.instanceMethod yX3_figuresBehind]
def wsX3_type_r3 : List Cond := [Cond.selects RX3 yX3_figuresBehind yX3_figuresBehind, Cond.code yX3_figuresBehind cX3_figuresBehind 3 (some .boolean), Cond.methodLink RX3 217 yX3_shiftsToLetters, Cond.instanceMethod yX3_shiftsToLetters, Cond.selects RX3 yX3_shiftsToLetters yX3_shiftsToLetters, Cond.code yX3_shiftsToLetters cX3_shiftsToLetters 2 (some .boolean), Cond.fieldLink RX3 90 "TapePrinter" "unshifts" "Z", Cond.methodLink RX3 96 yX0_room, Cond.instanceMethod yX0_room, Cond.selects RX0 yX0_room yX0_room, Cond.code yX0_room cX0_room 1 (some .int), Cond.methodLink RX3 104 yX0_add, Cond.instanceMethod yX0_add, Cond.selects RX0 yX0_add yX0_add, Cond.code yX0_add cX0_add 2 (some .boolean)]
def wsX3_type : List Cond := .code yX3_type cX3_type 5 (some .int) :: ((wsX3_type_r1 ++ (wsX3_type_r2 ++ wsX3_type_r3)) ++ wsX30 ++ wsX00 ++ (vx_atS RX3 40 "java/lang/IndexOutOfBoundsException" ["java/lang/RuntimeException", "java/lang/Exception"]).filter goodWord ++ (vx_atS RX3 103 "java/lang/IllegalStateException" ["java/lang/RuntimeException", "java/lang/Exception"]).filter goodWord)
def wsX3_rub : List Cond := .code yX3_rub cX3_rub 3 (some .int) :: ([.classLink RX3 36 "java/lang/IndexOutOfBoundsException", .initialized "java/lang/IndexOutOfBoundsException", .fieldLink RX3 28 "TapePrinter" "strip" "LTapePrinter$Row;", .methodLink RX3 122 yX0_has, .instanceMethod yX0_has, .selects RX0 yX0_has yX0_has, .initialized RX0, .code yX0_has cX0_has 2 (some .boolean), .fieldLink RX0 13 "TapePrinter$Row" "size" "I", .fieldLink RX0 7 "TapePrinter$Row" "values" "[I", .methodLink RX3 127 yX0_at, .instanceMethod yX0_at, .selects RX0 yX0_at yX0_at, .code yX0_at cX0_at 2 (some .int), .methodLink RX0 17 yX0_has, .methodLink RX3 130 yX0_change, .instanceMethod yX0_change, .selects RX0 yX0_change yX0_change, .code yX0_change cX0_change 3 none] ++ wsX30 ++ wsX00 ++ (vx_atS RX3 40 "java/lang/IndexOutOfBoundsException" ["java/lang/RuntimeException", "java/lang/Exception"]).filter goodWord)
def wsX3_run_r1 : List Cond := [Cond.classLink RX3 67 "java/lang/IllegalArgumentException", Cond.initialized "java/lang/IllegalArgumentException", Cond.fieldLink RX3 28 "TapePrinter" "strip" "LTapePrinter$Row;", Cond.fieldLink RX3 135 "TapePrinter" "reader" "I", Cond.methodLink RX3 139 Lib.Math.min.name, Cond.static Lib.Math.min.name, Cond.initialized "java/lang/Math", Cond.code Lib.Math.min.name Lib.Math.min.code 2 (some .int), Cond.methodLink RX3 107 yX0_size, Cond.instanceMethod yX0_size, Cond.selects RX0 yX0_size yX0_size, Cond.initialized RX0, Cond.code yX0_size cX0_size 1 (some .int), Cond.fieldLink RX0 13 "TapePrinter$Row" "size" "I", Cond.methodLink RX3 127 yX0_at, Cond.instanceMethod yX0_at, Cond.selects RX0 yX0_at yX0_at, Cond.code yX0_at cX0_at 2 (some .int), Cond.fieldLink RX0 7 "TapePrinter$Row" "values" "[I", Cond.methodLink RX0 17 yX0_has, Cond.instanceMethod yX0_has, Cond.selects RX0 yX0_has yX0_has, Cond.code yX0_has cX0_has 2 (some .boolean), Cond.methodLink RX3 93 yX3_takeIn]
def wsX3_run_r2 : List Cond := [Cond.instanceMethod yX3_takeIn, Cond.selects RX3 yX3_takeIn yX3_takeIn, Cond.initialized RX3, Cond.code yX3_takeIn cX3_takeIn 3 (some .int), Cond.fieldLink RX3 10 "TapePrinter" "wire" "LTapePrinter$Wire;", Cond.fieldLink RX3 158 "TapePrinter" "came" "I", Cond.fieldLink RX3 198 "TapePrinter" "misread" "I", Cond.methodLink RX3 161 yX2_readAs, Cond.instanceMethod yX2_readAs, Cond.selects RX2 yX2_readAs yX2_readAs, Cond.initialized RX2, Cond.code yX2_readAs cX2_readAs 6 (some .int), Cond.fieldLink RX2 20 "TapePrinter$Wire" "garbled" "LTapePrinter$Row;", Cond.fieldLink RX2 14 "TapePrinter$Wire" "late" "LTapePrinter$Row;", Cond.fieldLink RX2 27 "TapePrinter$Wire" "play" "I", Cond.methodLink RX2 31 yX0_at, Cond.methodLink RX3 220 yX3_obey, Cond.instanceMethod yX3_obey, Cond.selects RX3 yX3_obey yX3_obey, Cond.code yX3_obey cX3_obey 3 none, Cond.fieldLink RX3 61 "TapePrinter" "figures" "Z", Cond.fieldLink RX3 19 "TapePrinter" "sheet" "LTapePrinter$Sheet;", Cond.fieldLink RX3 201 "TapePrinter" "lost" "I", Cond.fieldLink RX3 204 "TapePrinter" "bells" "I"]
def wsX3_run_r3 : List Cond := [Cond.methodLink RX3 52 yX3_characterOf, Cond.static yX3_characterOf, Cond.code yX3_characterOf cX3_characterOf 3 (some .int), Cond.methodLink RX3 211 yX3_characterInLetters, Cond.static yX3_characterInLetters, Cond.code yX3_characterInLetters cX3_characterInLetters 1 (some .int), Cond.fieldLink RX3 214 "TapePrinter" "CHARACTERS" "[I", Cond.methodLink RX3 113 yX3_dependsOnShift, Cond.static yX3_dependsOnShift, Cond.code yX3_dependsOnShift cX3_dependsOnShift 2 (some .boolean), Cond.methodLink RX3 223 yX1_beginLine, Cond.instanceMethod yX1_beginLine, Cond.selects RX1 yX1_beginLine yX1_beginLine, Cond.initialized RX1, Cond.code yX1_beginLine cX1_beginLine 2 none, Cond.fieldLink RX1 17 "TapePrinter$Sheet" "used" "I", Cond.fieldLink RX1 24 "TapePrinter$Sheet" "first" "I", Cond.methodLink RX1 27 yX1_row, Cond.instanceMethod yX1_row, Cond.selects RX1 yX1_row yX1_row, Cond.code yX1_row cX1_row 3 (some (.object "TapePrinter$Row")), Cond.fieldLink RX1 11 "TapePrinter$Sheet" "rows" "[LTapePrinter$Row;", Cond.methodLink RX1 35 yX0_clear, Cond.instanceMethod yX0_clear]
def wsX3_run_r4 : List Cond := [Cond.selects RX0 yX0_clear yX0_clear, Cond.code yX0_clear cX0_clear 1 none, Cond.methodLink RX3 226 yX1_add, Cond.instanceMethod yX1_add, Cond.selects RX1 yX1_add yX1_add, Cond.code yX1_add cX1_add 3 (some .boolean), Cond.methodLink RX1 31 yX0_add, Cond.instanceMethod yX0_add, Cond.selects RX0 yX0_add yX0_add, Cond.code yX0_add cX0_add 2 (some .boolean), Cond.methodLink RX3 164 yX3_figuresBehind, Cond.instanceMethod yX3_figuresBehind, Cond.selects RX3 yX3_figuresBehind yX3_figuresBehind, Cond.code yX3_figuresBehind cX3_figuresBehind 3 (some .boolean), Cond.methodLink RX3 217 yX3_shiftsToLetters, Cond.instanceMethod yX3_shiftsToLetters, Cond.selects RX3 yX3_shiftsToLetters yX3_shiftsToLetters, Cond.code yX3_shiftsToLetters cX3_shiftsToLetters 2 (some .boolean), Cond.fieldLink RX3 90 "TapePrinter" "unshifts" "Z"]
def wsX3_run : List Cond := .code yX3_run cX3_run 4 (some .int) :: ((wsX3_run_r1 ++ (wsX3_run_r2 ++ (wsX3_run_r3 ++ wsX3_run_r4))) ++ wsX30 ++ wsX00 ++ wsX20 ++ wsX10 ++ (vx_atS RX3 71 "java/lang/IllegalArgumentException" ["java/lang/RuntimeException", "java/lang/Exception"]).filter goodWord)
def wsX3_wind : List Cond := .code yX3_wind cX3_wind 3 (some .int) :: ([.classLink RX3 36 "java/lang/IndexOutOfBoundsException", .initialized "java/lang/IndexOutOfBoundsException", .fieldLink RX3 28 "TapePrinter" "strip" "LTapePrinter$Row;", .fieldLink RX3 135 "TapePrinter" "reader" "I", .methodLink RX3 107 yX0_size, .instanceMethod yX0_size, .selects RX0 yX0_size yX0_size, .initialized RX0, .code yX0_size cX0_size 1 (some .int), .fieldLink RX0 13 "TapePrinter$Row" "size" "I"] ++ wsX30 ++ wsX00 ++ (vx_atS RX3 40 "java/lang/IndexOutOfBoundsException" ["java/lang/RuntimeException", "java/lang/Exception"]).filter goodWord)
def wsX3_tape : List Cond := .code yX3_tape cX3_tape 2 (some .int) :: ([.classLink RX3 36 "java/lang/IndexOutOfBoundsException", .initialized "java/lang/IndexOutOfBoundsException", .fieldLink RX3 28 "TapePrinter" "strip" "LTapePrinter$Row;", .methodLink RX3 122 yX0_has, .instanceMethod yX0_has, .selects RX0 yX0_has yX0_has, .initialized RX0, .code yX0_has cX0_has 2 (some .boolean), .fieldLink RX0 13 "TapePrinter$Row" "size" "I", .fieldLink RX0 7 "TapePrinter$Row" "values" "[I", .methodLink RX3 127 yX0_at, .instanceMethod yX0_at, .selects RX0 yX0_at yX0_at, .code yX0_at cX0_at 2 (some .int), .methodLink RX0 17 yX0_has] ++ wsX30 ++ wsX00 ++ (vx_atS RX3 40 "java/lang/IndexOutOfBoundsException" ["java/lang/RuntimeException", "java/lang/Exception"]).filter goodWord)
def wsX3_page : List Cond := .code yX3_page cX3_page 4 (some .int) :: ([.classLink RX3 36 "java/lang/IndexOutOfBoundsException", .initialized "java/lang/IndexOutOfBoundsException", .fieldLink RX3 19 "TapePrinter" "sheet" "LTapePrinter$Sheet;", .methodLink RX3 145 yX1_row, .instanceMethod yX1_row, .selects RX1 yX1_row yX1_row, .initialized RX1, .code yX1_row cX1_row 3 (some (.object "TapePrinter$Row")), .fieldLink RX1 17 "TapePrinter$Sheet" "used" "I", .fieldLink RX1 24 "TapePrinter$Sheet" "first" "I", .fieldLink RX1 11 "TapePrinter$Sheet" "rows" "[LTapePrinter$Row;", .methodLink RX3 122 yX0_has, .instanceMethod yX0_has, .selects RX0 yX0_has yX0_has, .initialized RX0, .code yX0_has cX0_has 2 (some .boolean), .fieldLink RX0 13 "TapePrinter$Row" "size" "I", .fieldLink RX0 7 "TapePrinter$Row" "values" "[I", .methodLink RX3 127 yX0_at, .instanceMethod yX0_at, .selects RX0 yX0_at yX0_at, .code yX0_at cX0_at 2 (some .int), .methodLink RX0 17 yX0_has] ++ wsX30 ++ wsX10 ++ wsX00 ++ (vx_atS RX3 40 "java/lang/IndexOutOfBoundsException" ["java/lang/RuntimeException", "java/lang/Exception"]).filter goodWord)
def wsX3_length : List Cond := .code yX3_length cX3_length 3 (some .int) :: ([.classLink RX3 36 "java/lang/IndexOutOfBoundsException", .initialized "java/lang/IndexOutOfBoundsException", .fieldLink RX3 19 "TapePrinter" "sheet" "LTapePrinter$Sheet;", .methodLink RX3 145 yX1_row, .instanceMethod yX1_row, .selects RX1 yX1_row yX1_row, .initialized RX1, .code yX1_row cX1_row 3 (some (.object "TapePrinter$Row")), .fieldLink RX1 17 "TapePrinter$Sheet" "used" "I", .fieldLink RX1 24 "TapePrinter$Sheet" "first" "I", .fieldLink RX1 11 "TapePrinter$Sheet" "rows" "[LTapePrinter$Row;", .methodLink RX3 107 yX0_size, .instanceMethod yX0_size, .selects RX0 yX0_size yX0_size, .initialized RX0, .code yX0_size cX0_size 1 (some .int), .fieldLink RX0 13 "TapePrinter$Row" "size" "I"] ++ wsX30 ++ wsX10 ++ wsX00 ++ (vx_atS RX3 40 "java/lang/IndexOutOfBoundsException" ["java/lang/RuntimeException", "java/lang/Exception"]).filter goodWord)
def wsX3_counted_r1 : List Cond := [Cond.fieldLink RX3 19 "TapePrinter" "sheet" "LTapePrinter$Sheet;", Cond.fieldLink RX3 61 "TapePrinter" "figures" "Z", Cond.fieldLink RX3 10 "TapePrinter" "wire" "LTapePrinter$Wire;", Cond.fieldLink RX3 28 "TapePrinter" "strip" "LTapePrinter$Row;", Cond.fieldLink RX3 135 "TapePrinter" "reader" "I", Cond.fieldLink RX3 158 "TapePrinter" "came" "I", Cond.fieldLink RX3 198 "TapePrinter" "misread" "I", Cond.fieldLink RX3 201 "TapePrinter" "lost" "I", Cond.fieldLink RX3 90 "TapePrinter" "unshifts" "Z", Cond.fieldLink RX3 204 "TapePrinter" "bells" "I", Cond.methodLink RX3 177 yX1_lines, Cond.instanceMethod yX1_lines, Cond.selects RX1 yX1_lines yX1_lines, Cond.initialized RX1, Cond.code yX1_lines cX1_lines 1 (some .int), Cond.fieldLink RX1 17 "TapePrinter$Sheet" "used" "I", Cond.methodLink RX3 180 yX1_characters, Cond.instanceMethod yX1_characters, Cond.selects RX1 yX1_characters yX1_characters, Cond.code yX1_characters cX1_characters 4 (some .int), Cond.methodLink RX1 27 yX1_row, Cond.instanceMethod yX1_row, Cond.selects RX1 yX1_row yX1_row, Cond.code yX1_row cX1_row 3 (some (.object "TapePrinter$Row"))]
def wsX3_counted_r2 : List Cond := [Cond.fieldLink RX1 24 "TapePrinter$Sheet" "first" "I", Cond.fieldLink RX1 11 "TapePrinter$Sheet" "rows" "[LTapePrinter$Row;", Cond.methodLink RX1 38 yX0_size, Cond.instanceMethod yX0_size, Cond.selects RX0 yX0_size yX0_size, Cond.initialized RX0, Cond.code yX0_size cX0_size 1 (some .int), Cond.fieldLink RX0 13 "TapePrinter$Row" "size" "I", Cond.methodLink RX3 83 yX2_play, Cond.instanceMethod yX2_play, Cond.selects RX2 yX2_play yX2_play, Cond.initialized RX2, Cond.code yX2_play cX2_play 1 (some .int), Cond.fieldLink RX2 27 "TapePrinter$Wire" "play" "I", Cond.methodLink RX3 107 yX0_size]
def wsX3_counted : List Cond := .code yX3_counted cX3_counted 2 (some .int) :: ((wsX3_counted_r1 ++ wsX3_counted_r2) ++ wsX30 ++ wsX10 ++ wsX00 ++ wsX20)
def wsX3_count_r1 : List Cond := [Cond.classLink RX3 36 "java/lang/IndexOutOfBoundsException", Cond.initialized "java/lang/IndexOutOfBoundsException", Cond.methodLink RX3 155 yX3_counted, Cond.instanceMethod yX3_counted, Cond.selects RX3 yX3_counted yX3_counted, Cond.initialized RX3, Cond.code yX3_counted cX3_counted 2 (some .int), Cond.fieldLink RX3 19 "TapePrinter" "sheet" "LTapePrinter$Sheet;", Cond.fieldLink RX3 61 "TapePrinter" "figures" "Z", Cond.fieldLink RX3 10 "TapePrinter" "wire" "LTapePrinter$Wire;", Cond.fieldLink RX3 28 "TapePrinter" "strip" "LTapePrinter$Row;", Cond.fieldLink RX3 135 "TapePrinter" "reader" "I", Cond.fieldLink RX3 158 "TapePrinter" "came" "I", Cond.fieldLink RX3 198 "TapePrinter" "misread" "I", Cond.fieldLink RX3 201 "TapePrinter" "lost" "I", Cond.fieldLink RX3 90 "TapePrinter" "unshifts" "Z", Cond.fieldLink RX3 204 "TapePrinter" "bells" "I", Cond.methodLink RX3 177 yX1_lines, Cond.instanceMethod yX1_lines, Cond.selects RX1 yX1_lines yX1_lines, Cond.initialized RX1, Cond.code yX1_lines cX1_lines 1 (some .int), Cond.fieldLink RX1 17 "TapePrinter$Sheet" "used" "I", Cond.methodLink RX3 180 yX1_characters]
def wsX3_count_r2 : List Cond := [Cond.instanceMethod yX1_characters, Cond.selects RX1 yX1_characters yX1_characters, Cond.code yX1_characters cX1_characters 4 (some .int), Cond.methodLink RX1 27 yX1_row, Cond.instanceMethod yX1_row, Cond.selects RX1 yX1_row yX1_row, Cond.code yX1_row cX1_row 3 (some (.object "TapePrinter$Row")), Cond.fieldLink RX1 24 "TapePrinter$Sheet" "first" "I", Cond.fieldLink RX1 11 "TapePrinter$Sheet" "rows" "[LTapePrinter$Row;", Cond.methodLink RX1 38 yX0_size, Cond.instanceMethod yX0_size, Cond.selects RX0 yX0_size yX0_size, Cond.initialized RX0, Cond.code yX0_size cX0_size 1 (some .int), Cond.fieldLink RX0 13 "TapePrinter$Row" "size" "I", Cond.methodLink RX3 83 yX2_play, Cond.instanceMethod yX2_play, Cond.selects RX2 yX2_play yX2_play, Cond.initialized RX2, Cond.code yX2_play cX2_play 1 (some .int), Cond.fieldLink RX2 27 "TapePrinter$Wire" "play" "I", Cond.methodLink RX3 107 yX0_size]
def wsX3_count : List Cond := .code yX3_count cX3_count 2 (some .int) :: ((wsX3_count_r1 ++ wsX3_count_r2) ++ wsX30 ++ wsX10 ++ wsX00 ++ wsX20 ++ (vx_atS RX3 40 "java/lang/IndexOutOfBoundsException" ["java/lang/RuntimeException", "java/lang/Exception"]).filter goodWord)
def wsX3_would_r1 : List Cond := [Cond.classLink RX3 36 "java/lang/IndexOutOfBoundsException", Cond.initialized "java/lang/IndexOutOfBoundsException", Cond.fieldLink RX3 10 "TapePrinter" "wire" "LTapePrinter$Wire;", Cond.fieldLink RX3 158 "TapePrinter" "came" "I", Cond.methodLink RX3 47 yX3_isCode, Cond.static yX3_isCode, Cond.initialized RX3, Cond.code yX3_isCode cX3_isCode 1 (some .boolean), Cond.methodLink RX3 161 yX2_readAs, Cond.instanceMethod yX2_readAs, Cond.selects RX2 yX2_readAs yX2_readAs, Cond.initialized RX2, Cond.code yX2_readAs cX2_readAs 6 (some .int), Cond.fieldLink RX2 20 "TapePrinter$Wire" "garbled" "LTapePrinter$Row;", Cond.fieldLink RX2 14 "TapePrinter$Wire" "late" "LTapePrinter$Row;", Cond.fieldLink RX2 27 "TapePrinter$Wire" "play" "I", Cond.methodLink RX2 31 yX0_at, Cond.instanceMethod yX0_at, Cond.selects RX0 yX0_at yX0_at, Cond.initialized RX0, Cond.code yX0_at cX0_at 2 (some .int), Cond.fieldLink RX0 7 "TapePrinter$Row" "values" "[I", Cond.methodLink RX0 17 yX0_has, Cond.instanceMethod yX0_has]
def wsX3_would_r2 : List Cond := [Cond.selects RX0 yX0_has yX0_has, Cond.code yX0_has cX0_has 2 (some .boolean), Cond.fieldLink RX0 13 "TapePrinter$Row" "size" "I"]
def wsX3_would : List Cond := .code yX3_would cX3_would 2 (some .int) :: ((wsX3_would_r1 ++ wsX3_would_r2) ++ wsX30 ++ wsX20 ++ wsX00 ++ (vx_atS RX3 40 "java/lang/IndexOutOfBoundsException" ["java/lang/RuntimeException", "java/lang/Exception"]).filter goodWord)
def wsX3_wrong_r1 : List Cond := [Cond.fieldLink RX3 135 "TapePrinter" "reader" "I", Cond.fieldLink RX3 28 "TapePrinter" "strip" "LTapePrinter$Row;", Cond.fieldLink RX3 10 "TapePrinter" "wire" "LTapePrinter$Wire;", Cond.fieldLink RX3 158 "TapePrinter" "came" "I", Cond.methodLink RX3 107 yX0_size, Cond.instanceMethod yX0_size, Cond.selects RX0 yX0_size yX0_size, Cond.initialized RX0, Cond.code yX0_size cX0_size 1 (some .int), Cond.fieldLink RX0 13 "TapePrinter$Row" "size" "I", Cond.methodLink RX3 127 yX0_at, Cond.instanceMethod yX0_at, Cond.selects RX0 yX0_at yX0_at, Cond.code yX0_at cX0_at 2 (some .int), Cond.fieldLink RX0 7 "TapePrinter$Row" "values" "[I", Cond.methodLink RX0 17 yX0_has, Cond.instanceMethod yX0_has, Cond.selects RX0 yX0_has yX0_has, Cond.code yX0_has cX0_has 2 (some .boolean), Cond.methodLink RX3 161 yX2_readAs, Cond.instanceMethod yX2_readAs, Cond.selects RX2 yX2_readAs yX2_readAs, Cond.initialized RX2, Cond.code yX2_readAs cX2_readAs 6 (some .int)]
def wsX3_wrong_r2 : List Cond := [Cond.fieldLink RX2 20 "TapePrinter$Wire" "garbled" "LTapePrinter$Row;", Cond.fieldLink RX2 14 "TapePrinter$Wire" "late" "LTapePrinter$Row;", Cond.fieldLink RX2 27 "TapePrinter$Wire" "play" "I", Cond.methodLink RX2 31 yX0_at]
def wsX3_wrong : List Cond := .code yX3_wrong cX3_wrong 4 (some .int) :: ((wsX3_wrong_r1 ++ wsX3_wrong_r2) ++ wsX30 ++ wsX00 ++ wsX20)
def wsX3_isShift : List Cond := .code yX3_isShift cX3_isShift 1 (some .boolean) :: ([])
def wsX3_servesBehind_r1 : List Cond := [Cond.fieldLink RX3 28 "TapePrinter" "strip" "LTapePrinter$Row;", Cond.methodLink RX3 107 yX0_size, Cond.instanceMethod yX0_size, Cond.selects RX0 yX0_size yX0_size, Cond.initialized RX0, Cond.code yX0_size cX0_size 1 (some .int), Cond.fieldLink RX0 13 "TapePrinter$Row" "size" "I", Cond.methodLink RX3 127 yX0_at, Cond.instanceMethod yX0_at, Cond.selects RX0 yX0_at yX0_at, Cond.code yX0_at cX0_at 2 (some .int), Cond.fieldLink RX0 7 "TapePrinter$Row" "values" "[I", Cond.methodLink RX0 17 yX0_has, Cond.instanceMethod yX0_has, Cond.selects RX0 yX0_has yX0_has, Cond.code yX0_has cX0_has 2 (some .boolean), Cond.methodLink RX3 113 yX3_dependsOnShift, Cond.static yX3_dependsOnShift, Cond.initialized RX3, Cond.code yX3_dependsOnShift cX3_dependsOnShift 2 (some .boolean), Cond.methodLink RX3 211 yX3_characterInLetters, Cond.static yX3_characterInLetters, Cond.code yX3_characterInLetters cX3_characterInLetters 1 (some .int), Cond.fieldLink RX3 214 "TapePrinter" "CHARACTERS" "[I"]
def wsX3_servesBehind_r2 : List Cond := [Cond.methodLink RX3 217 yX3_shiftsToLetters, Cond.instanceMethod yX3_shiftsToLetters, Cond.selects RX3 yX3_shiftsToLetters yX3_shiftsToLetters, Cond.code yX3_shiftsToLetters cX3_shiftsToLetters 2 (some .boolean), Cond.fieldLink RX3 90 "TapePrinter" "unshifts" "Z"]
def wsX3_servesBehind : List Cond := .code yX3_servesBehind cX3_servesBehind 4 (some .boolean) :: ((wsX3_servesBehind_r1 ++ wsX3_servesBehind_r2) ++ wsX30 ++ wsX00)
def wsX3_idle_r1 : List Cond := [Cond.fieldLink RX3 28 "TapePrinter" "strip" "LTapePrinter$Row;", Cond.methodLink RX3 107 yX0_size, Cond.instanceMethod yX0_size, Cond.selects RX0 yX0_size yX0_size, Cond.initialized RX0, Cond.code yX0_size cX0_size 1 (some .int), Cond.fieldLink RX0 13 "TapePrinter$Row" "size" "I", Cond.methodLink RX3 127 yX0_at, Cond.instanceMethod yX0_at, Cond.selects RX0 yX0_at yX0_at, Cond.code yX0_at cX0_at 2 (some .int), Cond.fieldLink RX0 7 "TapePrinter$Row" "values" "[I", Cond.methodLink RX0 17 yX0_has, Cond.instanceMethod yX0_has, Cond.selects RX0 yX0_has yX0_has, Cond.code yX0_has cX0_has 2 (some .boolean), Cond.methodLink RX3 164 yX3_figuresBehind, Cond.instanceMethod yX3_figuresBehind, Cond.selects RX3 yX3_figuresBehind yX3_figuresBehind, Cond.initialized RX3, Cond.code yX3_figuresBehind cX3_figuresBehind 3 (some .boolean), Cond.methodLink RX3 217 yX3_shiftsToLetters, Cond.instanceMethod yX3_shiftsToLetters, Cond.selects RX3 yX3_shiftsToLetters yX3_shiftsToLetters]
def wsX3_idle_r2 : List Cond := [Cond.code yX3_shiftsToLetters cX3_shiftsToLetters 2 (some .boolean), Cond.fieldLink RX3 90 "TapePrinter" "unshifts" "Z", Cond.methodLink RX3 168 yX3_isShift, Cond.static yX3_isShift, Cond.code yX3_isShift cX3_isShift 1 (some .boolean), Cond.methodLink RX3 171 yX3_servesBehind, Cond.instanceMethod yX3_servesBehind, Cond.selects RX3 yX3_servesBehind yX3_servesBehind, Cond.code yX3_servesBehind cX3_servesBehind 4 (some .boolean), Cond.methodLink RX3 113 yX3_dependsOnShift, Cond.static yX3_dependsOnShift, Cond.code yX3_dependsOnShift cX3_dependsOnShift 2 (some .boolean), Cond.methodLink RX3 211 yX3_characterInLetters, Cond.static yX3_characterInLetters, Cond.code yX3_characterInLetters cX3_characterInLetters 1 (some .int), Cond.fieldLink RX3 214 "TapePrinter" "CHARACTERS" "[I"]
def wsX3_idle : List Cond := .code yX3_idle cX3_idle 6 (some .int) :: ((wsX3_idle_r1 ++ wsX3_idle_r2) ++ wsX30 ++ wsX00)
def wsX3_prints_r1 : List Cond := [Cond.classLink RX3 36 "java/lang/IndexOutOfBoundsException", Cond.initialized "java/lang/IndexOutOfBoundsException", Cond.fieldLink RX3 28 "TapePrinter" "strip" "LTapePrinter$Row;", Cond.methodLink RX3 122 yX0_has, Cond.instanceMethod yX0_has, Cond.selects RX0 yX0_has yX0_has, Cond.initialized RX0, Cond.code yX0_has cX0_has 2 (some .boolean), Cond.fieldLink RX0 13 "TapePrinter$Row" "size" "I", Cond.fieldLink RX0 7 "TapePrinter$Row" "values" "[I", Cond.methodLink RX3 127 yX0_at, Cond.instanceMethod yX0_at, Cond.selects RX0 yX0_at yX0_at, Cond.code yX0_at cX0_at 2 (some .int), Cond.methodLink RX0 17 yX0_has, Cond.methodLink RX3 174 yX3_figuresAhead, Cond.instanceMethod yX3_figuresAhead, Cond.selects RX3 yX3_figuresAhead yX3_figuresAhead, Cond.initialized RX3, Cond.code yX3_figuresAhead cX3_figuresAhead 4 (some .boolean), Cond.methodLink RX3 107 yX0_size, Cond.instanceMethod yX0_size, Cond.selects RX0 yX0_size yX0_size, Cond.code yX0_size cX0_size 1 (some .int)]
def wsX3_prints_r2 : List Cond := [Cond.methodLink RX3 164 yX3_figuresBehind, Cond.instanceMethod yX3_figuresBehind, Cond.selects RX3 yX3_figuresBehind yX3_figuresBehind, Cond.code yX3_figuresBehind cX3_figuresBehind 3 (some .boolean), Cond.methodLink RX3 217 yX3_shiftsToLetters, Cond.instanceMethod yX3_shiftsToLetters, Cond.selects RX3 yX3_shiftsToLetters yX3_shiftsToLetters, Cond.code yX3_shiftsToLetters cX3_shiftsToLetters 2 (some .boolean), Cond.fieldLink RX3 90 "TapePrinter" "unshifts" "Z", Cond.methodLink RX3 52 yX3_characterOf, Cond.static yX3_characterOf, Cond.code yX3_characterOf cX3_characterOf 3 (some .int), Cond.methodLink RX3 211 yX3_characterInLetters, Cond.static yX3_characterInLetters, Cond.code yX3_characterInLetters cX3_characterInLetters 1 (some .int), Cond.fieldLink RX3 214 "TapePrinter" "CHARACTERS" "[I", Cond.methodLink RX3 113 yX3_dependsOnShift, Cond.static yX3_dependsOnShift, Cond.code yX3_dependsOnShift cX3_dependsOnShift 2 (some .boolean)]
def wsX3_prints : List Cond := .code yX3_prints cX3_prints 2 (some .int) :: ((wsX3_prints_r1 ++ wsX3_prints_r2) ++ wsX30 ++ wsX00 ++ (vx_atS RX3 40 "java/lang/IndexOutOfBoundsException" ["java/lang/RuntimeException", "java/lang/Exception"]).filter goodWord)
def wsX3_mean : List Cond := .code yX3_mean cX3_mean 2 (some .double) :: ([.fieldLink RX3 19 "TapePrinter" "sheet" "LTapePrinter$Sheet;", .methodLink RX3 177 yX1_lines, .instanceMethod yX1_lines, .selects RX1 yX1_lines yX1_lines, .initialized RX1, .code yX1_lines cX1_lines 1 (some .int), .fieldLink RX1 17 "TapePrinter$Sheet" "used" "I", .methodLink RX3 180 yX1_characters, .instanceMethod yX1_characters, .selects RX1 yX1_characters yX1_characters, .code yX1_characters cX1_characters 4 (some .int), .methodLink RX1 27 yX1_row, .instanceMethod yX1_row, .selects RX1 yX1_row yX1_row, .code yX1_row cX1_row 3 (some (.object "TapePrinter$Row")), .fieldLink RX1 24 "TapePrinter$Sheet" "first" "I", .fieldLink RX1 11 "TapePrinter$Sheet" "rows" "[LTapePrinter$Row;", .methodLink RX1 38 yX0_size, .instanceMethod yX0_size, .selects RX0 yX0_size yX0_size, .initialized RX0, .code yX0_size cX0_size 1 (some .int), .fieldLink RX0 13 "TapePrinter$Row" "size" "I"] ++ wsX30 ++ wsX10 ++ wsX00)
def wsL_isType : List Cond := .code yL_isType cL_isType 1 (some .boolean) :: ([])
def wsL_codes : List Cond := .code yL_codes cL_codes 3 (some (.array .int)) :: ([.arrayClass .int, .methodLink RL 9 yL_isType, .static yL_isType, .initialized RL, .code yL_isType cL_isType 1 (some .boolean)])
def wsL_characters : List Cond := .code yL_characters cL_characters 4 (some (.array .int)) :: ([.arrayClass .int, .methodLink RL 15 yL_codes, .static yL_codes, .initialized RL, .code yL_codes cL_codes 3 (some (.array .int)), .methodLink RL 9 yL_isType, .static yL_isType, .code yL_isType cL_isType 1 (some .boolean)])
def wsX4_init : List Cond := .code yX4_init cX4_init 1 none :: ([.methodLink RX4 1 objectInit, .instanceMethod objectInit, .code objectInit ⟨#[0xb1]⟩ 1 none, .fieldLink RX4 13 "TapePrinterLaw$Sim" "letters" "[I", .fieldLink RX4 19 "TapePrinterLaw$Sim" "figures" "[I", .classLink RX4 22 "[I", .arrayClass .int, .fieldLink RX4 23 "TapePrinterLaw$Sim" "page" "[[I", .fieldLink RX4 27 "TapePrinterLaw$Sim" "late" "[I", .fieldLink RX4 30 "TapePrinterLaw$Sim" "garble" "[I", .fieldLink RX4 33 "TapePrinterLaw$Sim" "tape" "[I", .static yL_characters, .initialized RL, .code yL_characters cL_characters 4 (some (.array .int)), .methodLink RL 15 yL_codes, .static yL_codes, .code yL_codes cL_codes 3 (some (.array .int)), .methodLink RL 9 yL_isType, .static yL_isType, .code yL_isType cL_isType 1 (some .boolean)] ++ wsX40)
def wsX4_more : List Cond := .code yX4_more cX4_more 4 (some (.array .int)) :: ([.arrayClass .int])
def wsX4_read : List Cond := .code yX4_read cX4_read 8 (some .int) :: ([.arrayClass .boolean, .fieldLink RX4 30 "TapePrinterLaw$Sim" "garble" "[I", .fieldLink RX4 27 "TapePrinterLaw$Sim" "late" "[I", .fieldLink RX4 36 "TapePrinterLaw$Sim" "play" "I"] ++ wsX40)
def wsX4_after : List Cond := .code yX4_after cX4_after 3 (some .boolean) :: ([.fieldLink RX4 40 "TapePrinterLaw$Sim" "unshifts" "Z"] ++ wsX40)
def wsX4_come_r1 : List Cond := [Cond.fieldLink RX4 44 "TapePrinterLaw$Sim" "came" "I", Cond.fieldLink RX4 51 "TapePrinterLaw$Sim" "wrong" "I", Cond.fieldLink RX4 54 "TapePrinterLaw$Sim" "rang" "I", Cond.fieldLink RX4 23 "TapePrinterLaw$Sim" "page" "[[I", Cond.classLink RX4 22 "[I", Cond.arrayClass .int, Cond.fieldLink RX4 57 "TapePrinterLaw$Sim" "isFigures" "Z", Cond.fieldLink RX4 19 "TapePrinterLaw$Sim" "figures" "[I", Cond.fieldLink RX4 13 "TapePrinterLaw$Sim" "letters" "[I", Cond.fieldLink RX4 60 "TapePrinterLaw$Sim" "lost" "I", Cond.methodLink RX4 47 yX4_read, Cond.instanceMethod yX4_read, Cond.selects RX4 yX4_read yX4_read, Cond.initialized RX4, Cond.code yX4_read cX4_read 8 (some .int), Cond.arrayClass .boolean, Cond.fieldLink RX4 30 "TapePrinterLaw$Sim" "garble" "[I", Cond.fieldLink RX4 27 "TapePrinterLaw$Sim" "late" "[I", Cond.fieldLink RX4 36 "TapePrinterLaw$Sim" "play" "I", Cond.methodLink RX4 63 yX4_more, Cond.static yX4_more, Cond.code yX4_more cX4_more 4 (some (.array .int)), Cond.methodLink RX4 67 yX4_after, Cond.instanceMethod yX4_after]
def wsX4_come_r2 : List Cond := [Cond.selects RX4 yX4_after yX4_after, Cond.code yX4_after cX4_after 3 (some .boolean), Cond.fieldLink RX4 40 "TapePrinterLaw$Sim" "unshifts" "Z"]
def wsX4_come : List Cond := .code yX4_come cX4_come 6 (some .int) :: ((wsX4_come_r1 ++ wsX4_come_r2) ++ wsX40)
def wsX4_shifts : List Cond := .code yX4_shifts cX4_shifts 3 (some (.array .boolean)) :: ([.fieldLink RX4 33 "TapePrinterLaw$Sim" "tape" "[I", .arrayClass .boolean, .methodLink RX4 67 yX4_after, .instanceMethod yX4_after, .selects RX4 yX4_after yX4_after, .initialized RX4, .code yX4_after cX4_after 3 (some .boolean), .fieldLink RX4 40 "TapePrinterLaw$Sim" "unshifts" "Z"] ++ wsX40)
def wsX4_isSame_r1 : List Cond := [Cond.fieldLink RX4 23 "TapePrinterLaw$Sim" "page" "[[I", Cond.fieldLink RX4 33 "TapePrinterLaw$Sim" "tape" "[I", Cond.fieldLink RX4 19 "TapePrinterLaw$Sim" "figures" "[I", Cond.fieldLink RX4 13 "TapePrinterLaw$Sim" "letters" "[I", Cond.arrayClass .int, Cond.fieldLink RX4 57 "TapePrinterLaw$Sim" "isFigures" "Z", Cond.fieldLink RX4 36 "TapePrinterLaw$Sim" "play" "I", Cond.fieldLink RX4 88 "TapePrinterLaw$Sim" "reader" "I", Cond.fieldLink RX4 44 "TapePrinterLaw$Sim" "came" "I", Cond.fieldLink RX4 51 "TapePrinterLaw$Sim" "wrong" "I", Cond.fieldLink RX4 60 "TapePrinterLaw$Sim" "lost" "I", Cond.fieldLink RX4 40 "TapePrinterLaw$Sim" "unshifts" "Z", Cond.fieldLink RX4 54 "TapePrinterLaw$Sim" "rang" "I", Cond.methodLink RX4 71 yX3_length, Cond.instanceMethod yX3_length, Cond.selects RX3 yX3_length yX3_length, Cond.initialized RX3, Cond.code yX3_length cX3_length 3 (some .int), Cond.classLink RX3 36 "java/lang/IndexOutOfBoundsException", Cond.initialized "java/lang/IndexOutOfBoundsException", Cond.fieldLink RX3 19 "TapePrinter" "sheet" "LTapePrinter$Sheet;", Cond.methodLink RX3 145 yX1_row, Cond.instanceMethod yX1_row, Cond.selects RX1 yX1_row yX1_row]
def wsX4_isSame_r2 : List Cond := [Cond.initialized RX1, Cond.code yX1_row cX1_row 3 (some (.object "TapePrinter$Row")), Cond.fieldLink RX1 17 "TapePrinter$Sheet" "used" "I", Cond.fieldLink RX1 24 "TapePrinter$Sheet" "first" "I", Cond.fieldLink RX1 11 "TapePrinter$Sheet" "rows" "[LTapePrinter$Row;", Cond.methodLink RX3 107 yX0_size, Cond.instanceMethod yX0_size, Cond.selects RX0 yX0_size yX0_size, Cond.initialized RX0, Cond.code yX0_size cX0_size 1 (some .int), Cond.fieldLink RX0 13 "TapePrinter$Row" "size" "I", Cond.methodLink RX4 77 yX3_page, Cond.instanceMethod yX3_page, Cond.selects RX3 yX3_page yX3_page, Cond.code yX3_page cX3_page 4 (some .int), Cond.methodLink RX3 122 yX0_has, Cond.instanceMethod yX0_has, Cond.selects RX0 yX0_has yX0_has, Cond.code yX0_has cX0_has 2 (some .boolean), Cond.fieldLink RX0 7 "TapePrinter$Row" "values" "[I", Cond.methodLink RX3 127 yX0_at, Cond.instanceMethod yX0_at, Cond.selects RX0 yX0_at yX0_at, Cond.code yX0_at cX0_at 2 (some .int)]
def wsX4_isSame_r3 : List Cond := [Cond.methodLink RX0 17 yX0_has, Cond.methodLink RX4 79 yX4_shifts, Cond.instanceMethod yX4_shifts, Cond.selects RX4 yX4_shifts yX4_shifts, Cond.initialized RX4, Cond.code yX4_shifts cX4_shifts 3 (some (.array .boolean)), Cond.arrayClass .boolean, Cond.methodLink RX4 67 yX4_after, Cond.instanceMethod yX4_after, Cond.selects RX4 yX4_after yX4_after, Cond.code yX4_after cX4_after 3 (some .boolean), Cond.methodLink RX4 83 yX3_tape, Cond.instanceMethod yX3_tape, Cond.selects RX3 yX3_tape yX3_tape, Cond.code yX3_tape cX3_tape 2 (some .int), Cond.fieldLink RX3 28 "TapePrinter" "strip" "LTapePrinter$Row;", Cond.methodLink RX4 85 yX3_prints, Cond.instanceMethod yX3_prints, Cond.selects RX3 yX3_prints yX3_prints, Cond.code yX3_prints cX3_prints 2 (some .int), Cond.methodLink RX3 174 yX3_figuresAhead, Cond.instanceMethod yX3_figuresAhead, Cond.selects RX3 yX3_figuresAhead yX3_figuresAhead, Cond.code yX3_figuresAhead cX3_figuresAhead 4 (some .boolean)]
def wsX4_isSame_r4 : List Cond := [Cond.methodLink RX3 164 yX3_figuresBehind, Cond.instanceMethod yX3_figuresBehind, Cond.selects RX3 yX3_figuresBehind yX3_figuresBehind, Cond.code yX3_figuresBehind cX3_figuresBehind 3 (some .boolean), Cond.methodLink RX3 217 yX3_shiftsToLetters, Cond.instanceMethod yX3_shiftsToLetters, Cond.selects RX3 yX3_shiftsToLetters yX3_shiftsToLetters, Cond.code yX3_shiftsToLetters cX3_shiftsToLetters 2 (some .boolean), Cond.fieldLink RX3 90 "TapePrinter" "unshifts" "Z", Cond.methodLink RX3 52 yX3_characterOf, Cond.static yX3_characterOf, Cond.code yX3_characterOf cX3_characterOf 3 (some .int), Cond.methodLink RX3 211 yX3_characterInLetters, Cond.static yX3_characterInLetters, Cond.code yX3_characterInLetters cX3_characterInLetters 1 (some .int), Cond.fieldLink RX3 214 "TapePrinter" "CHARACTERS" "[I", Cond.methodLink RX3 113 yX3_dependsOnShift, Cond.static yX3_dependsOnShift, Cond.code yX3_dependsOnShift cX3_dependsOnShift 2 (some .boolean), Cond.methodLink RX4 91 yX3_count, Cond.instanceMethod yX3_count, Cond.selects RX3 yX3_count yX3_count, Cond.code yX3_count cX3_count 2 (some .int), Cond.methodLink RX3 155 yX3_counted]
def wsX4_isSame_r5 : List Cond := [Cond.instanceMethod yX3_counted, Cond.selects RX3 yX3_counted yX3_counted, Cond.code yX3_counted cX3_counted 2 (some .int), Cond.fieldLink RX3 61 "TapePrinter" "figures" "Z", Cond.fieldLink RX3 10 "TapePrinter" "wire" "LTapePrinter$Wire;", Cond.fieldLink RX3 135 "TapePrinter" "reader" "I", Cond.fieldLink RX3 158 "TapePrinter" "came" "I", Cond.fieldLink RX3 198 "TapePrinter" "misread" "I", Cond.fieldLink RX3 201 "TapePrinter" "lost" "I", Cond.fieldLink RX3 204 "TapePrinter" "bells" "I", Cond.methodLink RX3 177 yX1_lines, Cond.instanceMethod yX1_lines, Cond.selects RX1 yX1_lines yX1_lines, Cond.code yX1_lines cX1_lines 1 (some .int), Cond.methodLink RX3 180 yX1_characters, Cond.instanceMethod yX1_characters, Cond.selects RX1 yX1_characters yX1_characters, Cond.code yX1_characters cX1_characters 4 (some .int), Cond.methodLink RX1 27 yX1_row, Cond.methodLink RX1 38 yX0_size, Cond.methodLink RX3 83 yX2_play, Cond.instanceMethod yX2_play, Cond.selects RX2 yX2_play yX2_play, Cond.initialized RX2]
def wsX4_isSame_r6 : List Cond := [Cond.code yX2_play cX2_play 1 (some .int), Cond.fieldLink RX2 27 "TapePrinter$Wire" "play" "I", Cond.methodLink RX4 94 yX3_mean, Cond.instanceMethod yX3_mean, Cond.selects RX3 yX3_mean yX3_mean, Cond.code yX3_mean cX3_mean 2 (some .double)]
def wsX4_isSame : List Cond := .code yX4_isSame cX4_isSame 6 (some .boolean) :: ((wsX4_isSame_r1 ++ (wsX4_isSame_r2 ++ (wsX4_isSame_r3 ++ (wsX4_isSame_r4 ++ (wsX4_isSame_r5 ++ wsX4_isSame_r6))))) ++ wsX40 ++ wsX30 ++ wsX10 ++ wsX00 ++ wsX20 ++ (vx_atS RX3 40 "java/lang/IndexOutOfBoundsException" ["java/lang/RuntimeException", "java/lang/Exception"]).filter goodWord)
def wsJ9_min_7cf53 : List Cond := .code yJ9_min_7cf53 cJ9_min_7cf53 2 (some .int) :: ([])
def wsL_below : List Cond := .code yL_below cL_below 2 (some .int) :: ([.constant RL 7 (2147483647)])
def wsL_cell : List Cond := .code yL_cell cL_cell 2 (some .int) :: ([.constant RL 8 (790386105)])
def wsL_act_r1 : List Cond := [Cond.fieldLink RL 19 "TapePrinterLaw$Sim" "tape" "[I", Cond.fieldLink RL 29 "TapePrinterLaw$Sim" "late" "[I", Cond.fieldLink RL 32 "TapePrinterLaw$Sim" "garble" "[I", Cond.fieldLink RL 41 "TapePrinterLaw$Sim" "play" "I", Cond.fieldLink RL 49 "TapePrinterLaw$Sim" "unshifts" "Z", Cond.fieldLink RL 80 "TapePrinterLaw$Sim" "reader" "I", Cond.methodLink RL 25 yL_below, Cond.static yL_below, Cond.initialized RL, Cond.code yL_below cL_below 2 (some .int), Cond.constant RL 7 (2147483647), Cond.methodLink RL 35 yX3_setLine, Cond.instanceMethod yX3_setLine, Cond.selects RX3 yX3_setLine yX3_setLine, Cond.initialized RX3, Cond.code yX3_setLine cX3_setLine 5 (some .int), Cond.classLink RX3 36 "java/lang/IndexOutOfBoundsException", Cond.initialized "java/lang/IndexOutOfBoundsException", Cond.classLink RX3 67 "java/lang/IllegalArgumentException", Cond.initialized "java/lang/IllegalArgumentException", Cond.fieldLink RX3 10 "TapePrinter" "wire" "LTapePrinter$Wire;", Cond.methodLink RX3 47 yX3_isCode, Cond.static yX3_isCode, Cond.code yX3_isCode cX3_isCode 1 (some .boolean)]
def wsL_act_r2 : List Cond := [Cond.methodLink RX3 74 yX2_lateAt, Cond.instanceMethod yX2_lateAt, Cond.selects RX2 yX2_lateAt yX2_lateAt, Cond.initialized RX2, Cond.code yX2_lateAt cX2_lateAt 2 (some .int), Cond.fieldLink RX2 14 "TapePrinter$Wire" "late" "LTapePrinter$Row;", Cond.methodLink RX2 31 yX0_at, Cond.instanceMethod yX0_at, Cond.selects RX0 yX0_at yX0_at, Cond.initialized RX0, Cond.code yX0_at cX0_at 2 (some .int), Cond.fieldLink RX0 7 "TapePrinter$Row" "values" "[I", Cond.methodLink RX0 17 yX0_has, Cond.instanceMethod yX0_has, Cond.selects RX0 yX0_has yX0_has, Cond.code yX0_has cX0_has 2 (some .boolean), Cond.fieldLink RX0 13 "TapePrinter$Row" "size" "I", Cond.methodLink RX3 77 yX2_change, Cond.instanceMethod yX2_change, Cond.selects RX2 yX2_change yX2_change, Cond.code yX2_change cX2_change 4 none, Cond.fieldLink RX2 20 "TapePrinter$Wire" "garbled" "LTapePrinter$Row;", Cond.methodLink RX2 35 yX0_change, Cond.instanceMethod yX0_change]
def wsL_act_r3 : List Cond := [Cond.selects RX0 yX0_change yX0_change, Cond.code yX0_change cX0_change 3 none, Cond.methodLink RL 45 yX3_setPlay, Cond.instanceMethod yX3_setPlay, Cond.selects RX3 yX3_setPlay yX3_setPlay, Cond.code yX3_setPlay cX3_setPlay 3 (some .int), Cond.methodLink RX3 83 yX2_play, Cond.instanceMethod yX2_play, Cond.selects RX2 yX2_play yX2_play, Cond.code yX2_play cX2_play 1 (some .int), Cond.fieldLink RX2 27 "TapePrinter$Wire" "play" "I", Cond.methodLink RX3 87 yX2_changePlay, Cond.instanceMethod yX2_changePlay, Cond.selects RX2 yX2_changePlay yX2_changePlay, Cond.code yX2_changePlay cX2_changePlay 2 none, Cond.methodLink RL 53 yX3_setUnshift, Cond.instanceMethod yX3_setUnshift, Cond.selects RX3 yX3_setUnshift yX3_setUnshift, Cond.code yX3_setUnshift cX3_setUnshift 3 (some .boolean), Cond.fieldLink RX3 90 "TapePrinter" "unshifts" "Z", Cond.methodLink RL 57 yX3_receive, Cond.instanceMethod yX3_receive, Cond.selects RX3 yX3_receive yX3_receive, Cond.code yX3_receive cX3_receive 2 (some .int)]
def wsL_act_r4 : List Cond := [Cond.methodLink RX3 93 yX3_takeIn, Cond.instanceMethod yX3_takeIn, Cond.selects RX3 yX3_takeIn yX3_takeIn, Cond.code yX3_takeIn cX3_takeIn 3 (some .int), Cond.fieldLink RX3 158 "TapePrinter" "came" "I", Cond.fieldLink RX3 198 "TapePrinter" "misread" "I", Cond.methodLink RX3 161 yX2_readAs, Cond.instanceMethod yX2_readAs, Cond.selects RX2 yX2_readAs yX2_readAs, Cond.code yX2_readAs cX2_readAs 6 (some .int), Cond.methodLink RX3 220 yX3_obey, Cond.instanceMethod yX3_obey, Cond.selects RX3 yX3_obey yX3_obey, Cond.code yX3_obey cX3_obey 3 none, Cond.fieldLink RX3 61 "TapePrinter" "figures" "Z", Cond.fieldLink RX3 19 "TapePrinter" "sheet" "LTapePrinter$Sheet;", Cond.fieldLink RX3 201 "TapePrinter" "lost" "I", Cond.fieldLink RX3 204 "TapePrinter" "bells" "I", Cond.methodLink RX3 52 yX3_characterOf, Cond.static yX3_characterOf, Cond.code yX3_characterOf cX3_characterOf 3 (some .int), Cond.methodLink RX3 211 yX3_characterInLetters, Cond.static yX3_characterInLetters, Cond.code yX3_characterInLetters cX3_characterInLetters 1 (some .int)]
def wsL_act_r5 : List Cond := [Cond.fieldLink RX3 214 "TapePrinter" "CHARACTERS" "[I", Cond.methodLink RX3 113 yX3_dependsOnShift, Cond.static yX3_dependsOnShift, Cond.code yX3_dependsOnShift cX3_dependsOnShift 2 (some .boolean), Cond.methodLink RX3 223 yX1_beginLine, Cond.instanceMethod yX1_beginLine, Cond.selects RX1 yX1_beginLine yX1_beginLine, Cond.initialized RX1, Cond.code yX1_beginLine cX1_beginLine 2 none, Cond.fieldLink RX1 17 "TapePrinter$Sheet" "used" "I", Cond.fieldLink RX1 24 "TapePrinter$Sheet" "first" "I", Cond.methodLink RX1 27 yX1_row, Cond.instanceMethod yX1_row, Cond.selects RX1 yX1_row yX1_row, Cond.code yX1_row cX1_row 3 (some (.object "TapePrinter$Row")), Cond.fieldLink RX1 11 "TapePrinter$Sheet" "rows" "[LTapePrinter$Row;", Cond.methodLink RX1 35 yX0_clear, Cond.instanceMethod yX0_clear, Cond.selects RX0 yX0_clear yX0_clear, Cond.code yX0_clear cX0_clear 1 none, Cond.methodLink RX3 226 yX1_add, Cond.instanceMethod yX1_add, Cond.selects RX1 yX1_add yX1_add, Cond.code yX1_add cX1_add 3 (some .boolean)]
def wsL_act_r6 : List Cond := [Cond.methodLink RX1 31 yX0_add, Cond.instanceMethod yX0_add, Cond.selects RX0 yX0_add yX0_add, Cond.code yX0_add cX0_add 2 (some .boolean), Cond.methodLink RX3 164 yX3_figuresBehind, Cond.instanceMethod yX3_figuresBehind, Cond.selects RX3 yX3_figuresBehind yX3_figuresBehind, Cond.code yX3_figuresBehind cX3_figuresBehind 3 (some .boolean), Cond.methodLink RX3 217 yX3_shiftsToLetters, Cond.instanceMethod yX3_shiftsToLetters, Cond.selects RX3 yX3_shiftsToLetters yX3_shiftsToLetters, Cond.code yX3_shiftsToLetters cX3_shiftsToLetters 2 (some .boolean), Cond.methodLink RL 60 yX4_come, Cond.instanceMethod yX4_come, Cond.selects RX4 yX4_come yX4_come, Cond.initialized RX4, Cond.code yX4_come cX4_come 6 (some .int), Cond.fieldLink RX4 44 "TapePrinterLaw$Sim" "came" "I", Cond.fieldLink RX4 51 "TapePrinterLaw$Sim" "wrong" "I", Cond.fieldLink RX4 54 "TapePrinterLaw$Sim" "rang" "I", Cond.fieldLink RX4 23 "TapePrinterLaw$Sim" "page" "[[I", Cond.classLink RX4 22 "[I", Cond.arrayClass .int, Cond.fieldLink RX4 57 "TapePrinterLaw$Sim" "isFigures" "Z"]
def wsL_act_r7 : List Cond := [Cond.fieldLink RX4 19 "TapePrinterLaw$Sim" "figures" "[I", Cond.fieldLink RX4 13 "TapePrinterLaw$Sim" "letters" "[I", Cond.fieldLink RX4 60 "TapePrinterLaw$Sim" "lost" "I", Cond.methodLink RX4 47 yX4_read, Cond.instanceMethod yX4_read, Cond.selects RX4 yX4_read yX4_read, Cond.code yX4_read cX4_read 8 (some .int), Cond.arrayClass .boolean, Cond.fieldLink RX4 30 "TapePrinterLaw$Sim" "garble" "[I", Cond.fieldLink RX4 27 "TapePrinterLaw$Sim" "late" "[I", Cond.fieldLink RX4 36 "TapePrinterLaw$Sim" "play" "I", Cond.methodLink RX4 63 yX4_more, Cond.static yX4_more, Cond.code yX4_more cX4_more 4 (some (.array .int)), Cond.methodLink RX4 67 yX4_after, Cond.instanceMethod yX4_after, Cond.selects RX4 yX4_after yX4_after, Cond.code yX4_after cX4_after 3 (some .boolean), Cond.fieldLink RX4 40 "TapePrinterLaw$Sim" "unshifts" "Z", Cond.methodLink RL 63 yX4_more, Cond.methodLink RL 67 yX3_punch, Cond.instanceMethod yX3_punch, Cond.selects RX3 yX3_punch yX3_punch, Cond.code yX3_punch cX3_punch 2 (some .int)]
def wsL_act_r8 : List Cond := [Cond.classLink RX3 99 "java/lang/IllegalStateException", Cond.initialized "java/lang/IllegalStateException", Cond.fieldLink RX3 28 "TapePrinter" "strip" "LTapePrinter$Row;", Cond.methodLink RX3 96 yX0_room, Cond.instanceMethod yX0_room, Cond.selects RX0 yX0_room yX0_room, Cond.code yX0_room cX0_room 1 (some .int), Cond.methodLink RX3 104 yX0_add, Cond.methodLink RX3 107 yX0_size, Cond.instanceMethod yX0_size, Cond.selects RX0 yX0_size yX0_size, Cond.code yX0_size cX0_size 1 (some .int), Cond.methodLink RL 70 yX4_shifts, Cond.instanceMethod yX4_shifts, Cond.selects RX4 yX4_shifts yX4_shifts, Cond.code yX4_shifts cX4_shifts 3 (some (.array .boolean)), Cond.fieldLink RX4 33 "TapePrinterLaw$Sim" "tape" "[I", Cond.methodLink RL 15 yL_codes, Cond.static yL_codes, Cond.code yL_codes cL_codes 3 (some (.array .int)), Cond.methodLink RL 9 yL_isType, Cond.static yL_isType, Cond.code yL_isType cL_isType 1 (some .boolean), Cond.methodLink RL 74 yX3_type]
def wsL_act_r9 : List Cond := [Cond.instanceMethod yX3_type, Cond.selects RX3 yX3_type yX3_type, Cond.code yX3_type cX3_type 5 (some .int), Cond.methodLink RX3 32 yX3_isCharacter, Cond.static yX3_isCharacter, Cond.code yX3_isCharacter cX3_isCharacter 1 (some .boolean), Cond.methodLink RX3 110 yX3_isFigure, Cond.static yX3_isFigure, Cond.code yX3_isFigure cX3_isFigure 1 (some .boolean), Cond.methodLink RX3 43 yX3_codeOf, Cond.static yX3_codeOf, Cond.code yX3_codeOf cX3_codeOf 1 (some .int), Cond.fieldLink RX3 207 "TapePrinter" "CODES" "[I", Cond.methodLink RX3 116 yX3_figuresAtEnd, Cond.instanceMethod yX3_figuresAtEnd, Cond.selects RX3 yX3_figuresAtEnd yX3_figuresAtEnd, Cond.code yX3_figuresAtEnd cX3_figuresAtEnd 1 (some .boolean), Cond.methodLink RX3 174 yX3_figuresAhead, Cond.instanceMethod yX3_figuresAhead, Cond.selects RX3 yX3_figuresAhead yX3_figuresAhead, Cond.code yX3_figuresAhead cX3_figuresAhead 4 (some .boolean), Cond.methodLink RX3 127 yX0_at, Cond.methodLink RL 77 yX3_rub, Cond.instanceMethod yX3_rub]
def wsL_act_r10 : List Cond := [Cond.selects RX3 yX3_rub yX3_rub, Cond.code yX3_rub cX3_rub 3 (some .int), Cond.methodLink RX3 122 yX0_has, Cond.methodLink RX3 130 yX0_change, Cond.methodLink RL 83 yX3_wind, Cond.instanceMethod yX3_wind, Cond.selects RX3 yX3_wind yX3_wind, Cond.code yX3_wind cX3_wind 3 (some .int), Cond.fieldLink RX3 135 "TapePrinter" "reader" "I", Cond.methodLink RL 86 yX3_run, Cond.instanceMethod yX3_run, Cond.selects RX3 yX3_run yX3_run, Cond.code yX3_run cX3_run 4 (some .int), Cond.methodLink RX3 139 Lib.Math.min.name, Cond.static Lib.Math.min.name, Cond.initialized "java/lang/Math", Cond.code Lib.Math.min.name Lib.Math.min.code 2 (some .int)]
def wsL_act : List Cond := .code yL_act cL_act 17 (some .boolean) :: ((wsL_act_r1 ++ (wsL_act_r2 ++ (wsL_act_r3 ++ (wsL_act_r4 ++ (wsL_act_r5 ++ (wsL_act_r6 ++ (wsL_act_r7 ++ (wsL_act_r8 ++ (wsL_act_r9 ++ wsL_act_r10))))))))) ++ wsX40 ++ wsX30 ++ wsX20 ++ wsX00 ++ wsX10 ++ (vx_atS RX3 40 "java/lang/IndexOutOfBoundsException" ["java/lang/RuntimeException", "java/lang/Exception"]).filter goodWord ++ (vx_atS RX3 71 "java/lang/IllegalArgumentException" ["java/lang/RuntimeException", "java/lang/Exception"]).filter goodWord ++ (vx_atS RX3 103 "java/lang/IllegalStateException" ["java/lang/RuntimeException", "java/lang/Exception"]).filter goodWord)
def wsL_build_r1 : List Cond := [Cond.classLink RL 20 RX4, Cond.instantiable RX4 14, Cond.initialized RX4, Cond.instanceMethod yX4_init, Cond.code yX4_init cX4_init 1 none, Cond.methodLink RX4 1 objectInit, Cond.instanceMethod objectInit, Cond.code objectInit ⟨#[0xb1]⟩ 1 none, Cond.fieldLink RX4 13 "TapePrinterLaw$Sim" "letters" "[I", Cond.fieldLink RX4 19 "TapePrinterLaw$Sim" "figures" "[I", Cond.classLink RX4 22 "[I", Cond.arrayClass .int, Cond.fieldLink RX4 23 "TapePrinterLaw$Sim" "page" "[[I", Cond.fieldLink RX4 27 "TapePrinterLaw$Sim" "late" "[I", Cond.fieldLink RX4 30 "TapePrinterLaw$Sim" "garble" "[I", Cond.fieldLink RX4 33 "TapePrinterLaw$Sim" "tape" "[I", Cond.static yL_characters, Cond.initialized RL, Cond.code yL_characters cL_characters 4 (some (.array .int)), Cond.methodLink RL 15 yL_codes, Cond.static yL_codes, Cond.code yL_codes cL_codes 3 (some (.array .int)), Cond.methodLink RL 9 yL_isType, Cond.static yL_isType]
def wsL_build_r2 : List Cond := [Cond.code yL_isType cL_isType 1 (some .boolean), Cond.methodLink RL 90 yL_cell, Cond.static yL_cell, Cond.code yL_cell cL_cell 2 (some .int), Cond.constant RL 8 (790386105), Cond.methodLink RL 94 yL_act, Cond.static yL_act, Cond.code yL_act cL_act 17 (some .boolean), Cond.fieldLink RL 19 "TapePrinterLaw$Sim" "tape" "[I", Cond.fieldLink RL 29 "TapePrinterLaw$Sim" "late" "[I", Cond.fieldLink RL 32 "TapePrinterLaw$Sim" "garble" "[I", Cond.fieldLink RL 41 "TapePrinterLaw$Sim" "play" "I", Cond.fieldLink RL 49 "TapePrinterLaw$Sim" "unshifts" "Z", Cond.fieldLink RL 80 "TapePrinterLaw$Sim" "reader" "I", Cond.methodLink RL 25 yL_below, Cond.static yL_below, Cond.code yL_below cL_below 2 (some .int), Cond.constant RL 7 (2147483647), Cond.methodLink RL 35 yX3_setLine, Cond.instanceMethod yX3_setLine, Cond.selects RX3 yX3_setLine yX3_setLine, Cond.initialized RX3, Cond.code yX3_setLine cX3_setLine 5 (some .int), Cond.classLink RX3 36 "java/lang/IndexOutOfBoundsException"]
def wsL_build_r3 : List Cond := [Cond.initialized "java/lang/IndexOutOfBoundsException", Cond.classLink RX3 67 "java/lang/IllegalArgumentException", Cond.initialized "java/lang/IllegalArgumentException", Cond.fieldLink RX3 10 "TapePrinter" "wire" "LTapePrinter$Wire;", Cond.methodLink RX3 47 yX3_isCode, Cond.static yX3_isCode, Cond.code yX3_isCode cX3_isCode 1 (some .boolean), Cond.methodLink RX3 74 yX2_lateAt, Cond.instanceMethod yX2_lateAt, Cond.selects RX2 yX2_lateAt yX2_lateAt, Cond.initialized RX2, Cond.code yX2_lateAt cX2_lateAt 2 (some .int), Cond.fieldLink RX2 14 "TapePrinter$Wire" "late" "LTapePrinter$Row;", Cond.methodLink RX2 31 yX0_at, Cond.instanceMethod yX0_at, Cond.selects RX0 yX0_at yX0_at, Cond.initialized RX0, Cond.code yX0_at cX0_at 2 (some .int), Cond.fieldLink RX0 7 "TapePrinter$Row" "values" "[I", Cond.methodLink RX0 17 yX0_has, Cond.instanceMethod yX0_has, Cond.selects RX0 yX0_has yX0_has, Cond.code yX0_has cX0_has 2 (some .boolean), Cond.fieldLink RX0 13 "TapePrinter$Row" "size" "I"]
def wsL_build_r4 : List Cond := [Cond.methodLink RX3 77 yX2_change, Cond.instanceMethod yX2_change, Cond.selects RX2 yX2_change yX2_change, Cond.code yX2_change cX2_change 4 none, Cond.fieldLink RX2 20 "TapePrinter$Wire" "garbled" "LTapePrinter$Row;", Cond.methodLink RX2 35 yX0_change, Cond.instanceMethod yX0_change, Cond.selects RX0 yX0_change yX0_change, Cond.code yX0_change cX0_change 3 none, Cond.methodLink RL 45 yX3_setPlay, Cond.instanceMethod yX3_setPlay, Cond.selects RX3 yX3_setPlay yX3_setPlay, Cond.code yX3_setPlay cX3_setPlay 3 (some .int), Cond.methodLink RX3 83 yX2_play, Cond.instanceMethod yX2_play, Cond.selects RX2 yX2_play yX2_play, Cond.code yX2_play cX2_play 1 (some .int), Cond.fieldLink RX2 27 "TapePrinter$Wire" "play" "I", Cond.methodLink RX3 87 yX2_changePlay, Cond.instanceMethod yX2_changePlay, Cond.selects RX2 yX2_changePlay yX2_changePlay, Cond.code yX2_changePlay cX2_changePlay 2 none, Cond.methodLink RL 53 yX3_setUnshift, Cond.instanceMethod yX3_setUnshift]
def wsL_build_r5 : List Cond := [Cond.selects RX3 yX3_setUnshift yX3_setUnshift, Cond.code yX3_setUnshift cX3_setUnshift 3 (some .boolean), Cond.fieldLink RX3 90 "TapePrinter" "unshifts" "Z", Cond.methodLink RL 57 yX3_receive, Cond.instanceMethod yX3_receive, Cond.selects RX3 yX3_receive yX3_receive, Cond.code yX3_receive cX3_receive 2 (some .int), Cond.methodLink RX3 93 yX3_takeIn, Cond.instanceMethod yX3_takeIn, Cond.selects RX3 yX3_takeIn yX3_takeIn, Cond.code yX3_takeIn cX3_takeIn 3 (some .int), Cond.fieldLink RX3 158 "TapePrinter" "came" "I", Cond.fieldLink RX3 198 "TapePrinter" "misread" "I", Cond.methodLink RX3 161 yX2_readAs, Cond.instanceMethod yX2_readAs, Cond.selects RX2 yX2_readAs yX2_readAs, Cond.code yX2_readAs cX2_readAs 6 (some .int), Cond.methodLink RX3 220 yX3_obey, Cond.instanceMethod yX3_obey, Cond.selects RX3 yX3_obey yX3_obey, Cond.code yX3_obey cX3_obey 3 none, Cond.fieldLink RX3 61 "TapePrinter" "figures" "Z", Cond.fieldLink RX3 19 "TapePrinter" "sheet" "LTapePrinter$Sheet;", Cond.fieldLink RX3 201 "TapePrinter" "lost" "I"]
def wsL_build_r6 : List Cond := [Cond.fieldLink RX3 204 "TapePrinter" "bells" "I", Cond.methodLink RX3 52 yX3_characterOf, Cond.static yX3_characterOf, Cond.code yX3_characterOf cX3_characterOf 3 (some .int), Cond.methodLink RX3 211 yX3_characterInLetters, Cond.static yX3_characterInLetters, Cond.code yX3_characterInLetters cX3_characterInLetters 1 (some .int), Cond.fieldLink RX3 214 "TapePrinter" "CHARACTERS" "[I", Cond.methodLink RX3 113 yX3_dependsOnShift, Cond.static yX3_dependsOnShift, Cond.code yX3_dependsOnShift cX3_dependsOnShift 2 (some .boolean), Cond.methodLink RX3 223 yX1_beginLine, Cond.instanceMethod yX1_beginLine, Cond.selects RX1 yX1_beginLine yX1_beginLine, Cond.initialized RX1, Cond.code yX1_beginLine cX1_beginLine 2 none, Cond.fieldLink RX1 17 "TapePrinter$Sheet" "used" "I", Cond.fieldLink RX1 24 "TapePrinter$Sheet" "first" "I", Cond.methodLink RX1 27 yX1_row, Cond.instanceMethod yX1_row, Cond.selects RX1 yX1_row yX1_row, Cond.code yX1_row cX1_row 3 (some (.object "TapePrinter$Row")), Cond.fieldLink RX1 11 "TapePrinter$Sheet" "rows" "[LTapePrinter$Row;", Cond.methodLink RX1 35 yX0_clear]
def wsL_build_r7 : List Cond := [Cond.instanceMethod yX0_clear, Cond.selects RX0 yX0_clear yX0_clear, Cond.code yX0_clear cX0_clear 1 none, Cond.methodLink RX3 226 yX1_add, Cond.instanceMethod yX1_add, Cond.selects RX1 yX1_add yX1_add, Cond.code yX1_add cX1_add 3 (some .boolean), Cond.methodLink RX1 31 yX0_add, Cond.instanceMethod yX0_add, Cond.selects RX0 yX0_add yX0_add, Cond.code yX0_add cX0_add 2 (some .boolean), Cond.methodLink RX3 164 yX3_figuresBehind, Cond.instanceMethod yX3_figuresBehind, Cond.selects RX3 yX3_figuresBehind yX3_figuresBehind, Cond.code yX3_figuresBehind cX3_figuresBehind 3 (some .boolean), Cond.methodLink RX3 217 yX3_shiftsToLetters, Cond.instanceMethod yX3_shiftsToLetters, Cond.selects RX3 yX3_shiftsToLetters yX3_shiftsToLetters, Cond.code yX3_shiftsToLetters cX3_shiftsToLetters 2 (some .boolean), Cond.methodLink RL 60 yX4_come, Cond.instanceMethod yX4_come, Cond.selects RX4 yX4_come yX4_come, Cond.code yX4_come cX4_come 6 (some .int), Cond.fieldLink RX4 44 "TapePrinterLaw$Sim" "came" "I"]
def wsL_build_r8 : List Cond := [Cond.fieldLink RX4 51 "TapePrinterLaw$Sim" "wrong" "I", Cond.fieldLink RX4 54 "TapePrinterLaw$Sim" "rang" "I", Cond.fieldLink RX4 57 "TapePrinterLaw$Sim" "isFigures" "Z", Cond.fieldLink RX4 60 "TapePrinterLaw$Sim" "lost" "I", Cond.methodLink RX4 47 yX4_read, Cond.instanceMethod yX4_read, Cond.selects RX4 yX4_read yX4_read, Cond.code yX4_read cX4_read 8 (some .int), Cond.arrayClass .boolean, Cond.fieldLink RX4 36 "TapePrinterLaw$Sim" "play" "I", Cond.methodLink RX4 63 yX4_more, Cond.static yX4_more, Cond.code yX4_more cX4_more 4 (some (.array .int)), Cond.methodLink RX4 67 yX4_after, Cond.instanceMethod yX4_after, Cond.selects RX4 yX4_after yX4_after, Cond.code yX4_after cX4_after 3 (some .boolean), Cond.fieldLink RX4 40 "TapePrinterLaw$Sim" "unshifts" "Z", Cond.methodLink RL 63 yX4_more, Cond.methodLink RL 67 yX3_punch, Cond.instanceMethod yX3_punch, Cond.selects RX3 yX3_punch yX3_punch, Cond.code yX3_punch cX3_punch 2 (some .int), Cond.classLink RX3 99 "java/lang/IllegalStateException"]
def wsL_build_r9 : List Cond := [Cond.initialized "java/lang/IllegalStateException", Cond.fieldLink RX3 28 "TapePrinter" "strip" "LTapePrinter$Row;", Cond.methodLink RX3 96 yX0_room, Cond.instanceMethod yX0_room, Cond.selects RX0 yX0_room yX0_room, Cond.code yX0_room cX0_room 1 (some .int), Cond.methodLink RX3 104 yX0_add, Cond.methodLink RX3 107 yX0_size, Cond.instanceMethod yX0_size, Cond.selects RX0 yX0_size yX0_size, Cond.code yX0_size cX0_size 1 (some .int), Cond.methodLink RL 70 yX4_shifts, Cond.instanceMethod yX4_shifts, Cond.selects RX4 yX4_shifts yX4_shifts, Cond.code yX4_shifts cX4_shifts 3 (some (.array .boolean)), Cond.methodLink RL 74 yX3_type, Cond.instanceMethod yX3_type, Cond.selects RX3 yX3_type yX3_type, Cond.code yX3_type cX3_type 5 (some .int), Cond.methodLink RX3 32 yX3_isCharacter, Cond.static yX3_isCharacter, Cond.code yX3_isCharacter cX3_isCharacter 1 (some .boolean), Cond.methodLink RX3 110 yX3_isFigure, Cond.static yX3_isFigure]
def wsL_build_r10 : List Cond := [Cond.code yX3_isFigure cX3_isFigure 1 (some .boolean), Cond.methodLink RX3 43 yX3_codeOf, Cond.static yX3_codeOf, Cond.code yX3_codeOf cX3_codeOf 1 (some .int), Cond.fieldLink RX3 207 "TapePrinter" "CODES" "[I", Cond.methodLink RX3 116 yX3_figuresAtEnd, Cond.instanceMethod yX3_figuresAtEnd, Cond.selects RX3 yX3_figuresAtEnd yX3_figuresAtEnd, Cond.code yX3_figuresAtEnd cX3_figuresAtEnd 1 (some .boolean), Cond.methodLink RX3 174 yX3_figuresAhead, Cond.instanceMethod yX3_figuresAhead, Cond.selects RX3 yX3_figuresAhead yX3_figuresAhead, Cond.code yX3_figuresAhead cX3_figuresAhead 4 (some .boolean), Cond.methodLink RX3 127 yX0_at, Cond.methodLink RL 77 yX3_rub, Cond.instanceMethod yX3_rub, Cond.selects RX3 yX3_rub yX3_rub, Cond.code yX3_rub cX3_rub 3 (some .int), Cond.methodLink RX3 122 yX0_has, Cond.methodLink RX3 130 yX0_change, Cond.methodLink RL 83 yX3_wind, Cond.instanceMethod yX3_wind, Cond.selects RX3 yX3_wind yX3_wind, Cond.code yX3_wind cX3_wind 3 (some .int)]
def wsL_build_r11 : List Cond := [Cond.fieldLink RX3 135 "TapePrinter" "reader" "I", Cond.methodLink RL 86 yX3_run, Cond.instanceMethod yX3_run, Cond.selects RX3 yX3_run yX3_run, Cond.code yX3_run cX3_run 4 (some .int), Cond.methodLink RX3 139 Lib.Math.min.name, Cond.static Lib.Math.min.name, Cond.initialized "java/lang/Math", Cond.code Lib.Math.min.name Lib.Math.min.code 2 (some .int)]
def wsL_build : List Cond := .code yL_build cL_build 4 (some (.object "TapePrinterLaw$Sim")) :: ((wsL_build_r1 ++ (wsL_build_r2 ++ (wsL_build_r3 ++ (wsL_build_r4 ++ (wsL_build_r5 ++ (wsL_build_r6 ++ (wsL_build_r7 ++ (wsL_build_r8 ++ (wsL_build_r9 ++ (wsL_build_r10 ++ wsL_build_r11)))))))))) ++ wsX40 ++ wsX30 ++ wsX20 ++ wsX00 ++ wsX10 ++ (vx_atS RX3 40 "java/lang/IndexOutOfBoundsException" ["java/lang/RuntimeException", "java/lang/Exception"]).filter goodWord ++ (vx_atS RX3 71 "java/lang/IllegalArgumentException" ["java/lang/RuntimeException", "java/lang/Exception"]).filter goodWord ++ (vx_atS RX3 103 "java/lang/IllegalStateException" ["java/lang/RuntimeException", "java/lang/Exception"]).filter goodWord)
def wsL_law0_r1 : List Cond := [Cond.classLink RL 36 RX3, Cond.instantiable RX3 10, Cond.initialized RX3, Cond.arrayClass .int, Cond.methodLink RL 116 Lib.Math.min.name, Cond.static Lib.Math.min.name, Cond.initialized "java/lang/Math", Cond.code Lib.Math.min.name Lib.Math.min.code 2 (some .int), Cond.fieldLink RL 19 "TapePrinterLaw$Sim" "tape" "[I", Cond.fieldLink RL 80 "TapePrinterLaw$Sim" "reader" "I", Cond.methodLink RL 98 yX3_init, Cond.instanceMethod yX3_init, Cond.code yX3_init cX3_init 1 none, Cond.methodLink RX3 1 objectInit, Cond.instanceMethod objectInit, Cond.code objectInit ⟨#[0xb1]⟩ 1 none, Cond.classLink RX3 7 RX2, Cond.instantiable RX2 3, Cond.initialized RX2, Cond.fieldLink RX3 10 "TapePrinter" "wire" "LTapePrinter$Wire;", Cond.classLink RX3 16 RX1, Cond.instantiable RX1 3, Cond.initialized RX1, Cond.fieldLink RX3 19 "TapePrinter" "sheet" "LTapePrinter$Sheet;"]
def wsL_law0_r2 : List Cond := [Cond.classLink RX3 23 RX0, Cond.instantiable RX0 2, Cond.initialized RX0, Cond.fieldLink RX3 28 "TapePrinter" "strip" "LTapePrinter$Row;", Cond.methodLink RX3 9 yX2_init, Cond.instanceMethod yX2_init, Cond.code yX2_init cX2_init 2 none, Cond.methodLink RX2 3 objectInit, Cond.classLink RX2 9 RX0, Cond.fieldLink RX2 14 "TapePrinter$Wire" "late" "LTapePrinter$Row;", Cond.fieldLink RX2 20 "TapePrinter$Wire" "garbled" "LTapePrinter$Row;", Cond.methodLink RX2 11 yX0_init, Cond.instanceMethod yX0_init, Cond.code yX0_init cX0_init 2 none, Cond.methodLink RX0 1 objectInit, Cond.fieldLink RX0 7 "TapePrinter$Row" "values" "[I", Cond.methodLink RX2 23 yX0_add, Cond.instanceMethod yX0_add, Cond.selects RX0 yX0_add yX0_add, Cond.code yX0_add cX0_add 2 (some .boolean), Cond.fieldLink RX0 13 "TapePrinter$Row" "size" "I", Cond.methodLink RX3 18 yX1_init, Cond.instanceMethod yX1_init, Cond.code yX1_init cX1_init 2 none]
def wsL_law0_r3 : List Cond := [Cond.methodLink RX1 3 objectInit, Cond.classLink RX1 9 RX0, Cond.fieldLink RX1 11 "TapePrinter$Sheet" "rows" "[LTapePrinter$Row;", Cond.fieldLink RX1 17 "TapePrinter$Sheet" "used" "I", Cond.methodLink RX1 21 yX0_init, Cond.methodLink RX3 25 yX0_init, Cond.methodLink RL 99 yL_build, Cond.static yL_build, Cond.initialized RL, Cond.code yL_build cL_build 4 (some (.object "TapePrinterLaw$Sim")), Cond.classLink RL 20 RX4, Cond.instantiable RX4 14, Cond.initialized RX4, Cond.instanceMethod yX4_init, Cond.code yX4_init cX4_init 1 none, Cond.methodLink RX4 1 objectInit, Cond.fieldLink RX4 13 "TapePrinterLaw$Sim" "letters" "[I", Cond.fieldLink RX4 19 "TapePrinterLaw$Sim" "figures" "[I", Cond.classLink RX4 22 "[I", Cond.fieldLink RX4 23 "TapePrinterLaw$Sim" "page" "[[I", Cond.fieldLink RX4 27 "TapePrinterLaw$Sim" "late" "[I", Cond.fieldLink RX4 30 "TapePrinterLaw$Sim" "garble" "[I", Cond.fieldLink RX4 33 "TapePrinterLaw$Sim" "tape" "[I", Cond.static yL_characters]
def wsL_law0_r4 : List Cond := [Cond.code yL_characters cL_characters 4 (some (.array .int)), Cond.methodLink RL 15 yL_codes, Cond.static yL_codes, Cond.code yL_codes cL_codes 3 (some (.array .int)), Cond.methodLink RL 9 yL_isType, Cond.static yL_isType, Cond.code yL_isType cL_isType 1 (some .boolean), Cond.methodLink RL 90 yL_cell, Cond.static yL_cell, Cond.code yL_cell cL_cell 2 (some .int), Cond.constant RL 8 (790386105), Cond.methodLink RL 94 yL_act, Cond.static yL_act, Cond.code yL_act cL_act 17 (some .boolean), Cond.fieldLink RL 29 "TapePrinterLaw$Sim" "late" "[I", Cond.fieldLink RL 32 "TapePrinterLaw$Sim" "garble" "[I", Cond.fieldLink RL 41 "TapePrinterLaw$Sim" "play" "I", Cond.fieldLink RL 49 "TapePrinterLaw$Sim" "unshifts" "Z", Cond.methodLink RL 25 yL_below, Cond.static yL_below, Cond.code yL_below cL_below 2 (some .int), Cond.constant RL 7 (2147483647), Cond.methodLink RL 35 yX3_setLine, Cond.instanceMethod yX3_setLine]
def wsL_law0_r5 : List Cond := [Cond.selects RX3 yX3_setLine yX3_setLine, Cond.code yX3_setLine cX3_setLine 5 (some .int), Cond.classLink RX3 36 "java/lang/IndexOutOfBoundsException", Cond.initialized "java/lang/IndexOutOfBoundsException", Cond.classLink RX3 67 "java/lang/IllegalArgumentException", Cond.initialized "java/lang/IllegalArgumentException", Cond.methodLink RX3 47 yX3_isCode, Cond.static yX3_isCode, Cond.code yX3_isCode cX3_isCode 1 (some .boolean), Cond.methodLink RX3 74 yX2_lateAt, Cond.instanceMethod yX2_lateAt, Cond.selects RX2 yX2_lateAt yX2_lateAt, Cond.code yX2_lateAt cX2_lateAt 2 (some .int), Cond.methodLink RX2 31 yX0_at, Cond.instanceMethod yX0_at, Cond.selects RX0 yX0_at yX0_at, Cond.code yX0_at cX0_at 2 (some .int), Cond.methodLink RX0 17 yX0_has, Cond.instanceMethod yX0_has, Cond.selects RX0 yX0_has yX0_has, Cond.code yX0_has cX0_has 2 (some .boolean), Cond.methodLink RX3 77 yX2_change, Cond.instanceMethod yX2_change, Cond.selects RX2 yX2_change yX2_change]
def wsL_law0_r6 : List Cond := [Cond.code yX2_change cX2_change 4 none, Cond.methodLink RX2 35 yX0_change, Cond.instanceMethod yX0_change, Cond.selects RX0 yX0_change yX0_change, Cond.code yX0_change cX0_change 3 none, Cond.methodLink RL 45 yX3_setPlay, Cond.instanceMethod yX3_setPlay, Cond.selects RX3 yX3_setPlay yX3_setPlay, Cond.code yX3_setPlay cX3_setPlay 3 (some .int), Cond.methodLink RX3 83 yX2_play, Cond.instanceMethod yX2_play, Cond.selects RX2 yX2_play yX2_play, Cond.code yX2_play cX2_play 1 (some .int), Cond.fieldLink RX2 27 "TapePrinter$Wire" "play" "I", Cond.methodLink RX3 87 yX2_changePlay, Cond.instanceMethod yX2_changePlay, Cond.selects RX2 yX2_changePlay yX2_changePlay, Cond.code yX2_changePlay cX2_changePlay 2 none, Cond.methodLink RL 53 yX3_setUnshift, Cond.instanceMethod yX3_setUnshift, Cond.selects RX3 yX3_setUnshift yX3_setUnshift, Cond.code yX3_setUnshift cX3_setUnshift 3 (some .boolean), Cond.fieldLink RX3 90 "TapePrinter" "unshifts" "Z", Cond.methodLink RL 57 yX3_receive]
def wsL_law0_r7 : List Cond := [Cond.instanceMethod yX3_receive, Cond.selects RX3 yX3_receive yX3_receive, Cond.code yX3_receive cX3_receive 2 (some .int), Cond.methodLink RX3 93 yX3_takeIn, Cond.instanceMethod yX3_takeIn, Cond.selects RX3 yX3_takeIn yX3_takeIn, Cond.code yX3_takeIn cX3_takeIn 3 (some .int), Cond.fieldLink RX3 158 "TapePrinter" "came" "I", Cond.fieldLink RX3 198 "TapePrinter" "misread" "I", Cond.methodLink RX3 161 yX2_readAs, Cond.instanceMethod yX2_readAs, Cond.selects RX2 yX2_readAs yX2_readAs, Cond.code yX2_readAs cX2_readAs 6 (some .int), Cond.methodLink RX3 220 yX3_obey, Cond.instanceMethod yX3_obey, Cond.selects RX3 yX3_obey yX3_obey, Cond.code yX3_obey cX3_obey 3 none, Cond.fieldLink RX3 61 "TapePrinter" "figures" "Z", Cond.fieldLink RX3 201 "TapePrinter" "lost" "I", Cond.fieldLink RX3 204 "TapePrinter" "bells" "I", Cond.methodLink RX3 52 yX3_characterOf, Cond.static yX3_characterOf, Cond.code yX3_characterOf cX3_characterOf 3 (some .int), Cond.methodLink RX3 211 yX3_characterInLetters]
def wsL_law0_r8 : List Cond := [Cond.static yX3_characterInLetters, Cond.code yX3_characterInLetters cX3_characterInLetters 1 (some .int), Cond.fieldLink RX3 214 "TapePrinter" "CHARACTERS" "[I", Cond.methodLink RX3 113 yX3_dependsOnShift, Cond.static yX3_dependsOnShift, Cond.code yX3_dependsOnShift cX3_dependsOnShift 2 (some .boolean), Cond.methodLink RX3 223 yX1_beginLine, Cond.instanceMethod yX1_beginLine, Cond.selects RX1 yX1_beginLine yX1_beginLine, Cond.code yX1_beginLine cX1_beginLine 2 none, Cond.fieldLink RX1 24 "TapePrinter$Sheet" "first" "I", Cond.methodLink RX1 27 yX1_row, Cond.instanceMethod yX1_row, Cond.selects RX1 yX1_row yX1_row, Cond.code yX1_row cX1_row 3 (some (.object "TapePrinter$Row")), Cond.methodLink RX1 35 yX0_clear, Cond.instanceMethod yX0_clear, Cond.selects RX0 yX0_clear yX0_clear, Cond.code yX0_clear cX0_clear 1 none, Cond.methodLink RX3 226 yX1_add, Cond.instanceMethod yX1_add, Cond.selects RX1 yX1_add yX1_add, Cond.code yX1_add cX1_add 3 (some .boolean), Cond.methodLink RX1 31 yX0_add]
def wsL_law0_r9 : List Cond := [Cond.methodLink RX3 164 yX3_figuresBehind, Cond.instanceMethod yX3_figuresBehind, Cond.selects RX3 yX3_figuresBehind yX3_figuresBehind, Cond.code yX3_figuresBehind cX3_figuresBehind 3 (some .boolean), Cond.methodLink RX3 217 yX3_shiftsToLetters, Cond.instanceMethod yX3_shiftsToLetters, Cond.selects RX3 yX3_shiftsToLetters yX3_shiftsToLetters, Cond.code yX3_shiftsToLetters cX3_shiftsToLetters 2 (some .boolean), Cond.methodLink RL 60 yX4_come, Cond.instanceMethod yX4_come, Cond.selects RX4 yX4_come yX4_come, Cond.code yX4_come cX4_come 6 (some .int), Cond.fieldLink RX4 44 "TapePrinterLaw$Sim" "came" "I", Cond.fieldLink RX4 51 "TapePrinterLaw$Sim" "wrong" "I", Cond.fieldLink RX4 54 "TapePrinterLaw$Sim" "rang" "I", Cond.fieldLink RX4 57 "TapePrinterLaw$Sim" "isFigures" "Z", Cond.fieldLink RX4 60 "TapePrinterLaw$Sim" "lost" "I", Cond.methodLink RX4 47 yX4_read, Cond.instanceMethod yX4_read, Cond.selects RX4 yX4_read yX4_read, Cond.code yX4_read cX4_read 8 (some .int), Cond.arrayClass .boolean, Cond.fieldLink RX4 36 "TapePrinterLaw$Sim" "play" "I", Cond.methodLink RX4 63 yX4_more]
def wsL_law0_r10 : List Cond := [Cond.static yX4_more, Cond.code yX4_more cX4_more 4 (some (.array .int)), Cond.methodLink RX4 67 yX4_after, Cond.instanceMethod yX4_after, Cond.selects RX4 yX4_after yX4_after, Cond.code yX4_after cX4_after 3 (some .boolean), Cond.fieldLink RX4 40 "TapePrinterLaw$Sim" "unshifts" "Z", Cond.methodLink RL 63 yX4_more, Cond.methodLink RL 67 yX3_punch, Cond.instanceMethod yX3_punch, Cond.selects RX3 yX3_punch yX3_punch, Cond.code yX3_punch cX3_punch 2 (some .int), Cond.classLink RX3 99 "java/lang/IllegalStateException", Cond.initialized "java/lang/IllegalStateException", Cond.methodLink RX3 96 yX0_room, Cond.instanceMethod yX0_room, Cond.selects RX0 yX0_room yX0_room, Cond.code yX0_room cX0_room 1 (some .int), Cond.methodLink RX3 104 yX0_add, Cond.methodLink RX3 107 yX0_size, Cond.instanceMethod yX0_size, Cond.selects RX0 yX0_size yX0_size, Cond.code yX0_size cX0_size 1 (some .int), Cond.methodLink RL 70 yX4_shifts]
def wsL_law0_r11 : List Cond := [Cond.instanceMethod yX4_shifts, Cond.selects RX4 yX4_shifts yX4_shifts, Cond.code yX4_shifts cX4_shifts 3 (some (.array .boolean)), Cond.methodLink RL 74 yX3_type, Cond.instanceMethod yX3_type, Cond.selects RX3 yX3_type yX3_type, Cond.code yX3_type cX3_type 5 (some .int), Cond.methodLink RX3 32 yX3_isCharacter, Cond.static yX3_isCharacter, Cond.code yX3_isCharacter cX3_isCharacter 1 (some .boolean), Cond.methodLink RX3 110 yX3_isFigure, Cond.static yX3_isFigure, Cond.code yX3_isFigure cX3_isFigure 1 (some .boolean), Cond.methodLink RX3 43 yX3_codeOf, Cond.static yX3_codeOf, Cond.code yX3_codeOf cX3_codeOf 1 (some .int), Cond.fieldLink RX3 207 "TapePrinter" "CODES" "[I", Cond.methodLink RX3 116 yX3_figuresAtEnd, Cond.instanceMethod yX3_figuresAtEnd, Cond.selects RX3 yX3_figuresAtEnd yX3_figuresAtEnd, Cond.code yX3_figuresAtEnd cX3_figuresAtEnd 1 (some .boolean), Cond.methodLink RX3 174 yX3_figuresAhead, Cond.instanceMethod yX3_figuresAhead, Cond.selects RX3 yX3_figuresAhead yX3_figuresAhead]
def wsL_law0_r12 : List Cond := [Cond.code yX3_figuresAhead cX3_figuresAhead 4 (some .boolean), Cond.methodLink RX3 127 yX0_at, Cond.methodLink RL 77 yX3_rub, Cond.instanceMethod yX3_rub, Cond.selects RX3 yX3_rub yX3_rub, Cond.code yX3_rub cX3_rub 3 (some .int), Cond.methodLink RX3 122 yX0_has, Cond.methodLink RX3 130 yX0_change, Cond.methodLink RL 83 yX3_wind, Cond.instanceMethod yX3_wind, Cond.selects RX3 yX3_wind yX3_wind, Cond.code yX3_wind cX3_wind 3 (some .int), Cond.fieldLink RX3 135 "TapePrinter" "reader" "I", Cond.methodLink RL 86 yX3_run, Cond.instanceMethod yX3_run, Cond.selects RX3 yX3_run yX3_run, Cond.code yX3_run cX3_run 4 (some .int), Cond.methodLink RX3 139 Lib.Math.min.name, Cond.methodLink RL 103 yX3_count, Cond.instanceMethod yX3_count, Cond.selects RX3 yX3_count yX3_count, Cond.code yX3_count cX3_count 2 (some .int), Cond.methodLink RX3 155 yX3_counted, Cond.instanceMethod yX3_counted]
def wsL_law0_r13 : List Cond := [Cond.selects RX3 yX3_counted yX3_counted, Cond.code yX3_counted cX3_counted 2 (some .int), Cond.methodLink RX3 177 yX1_lines, Cond.instanceMethod yX1_lines, Cond.selects RX1 yX1_lines yX1_lines, Cond.code yX1_lines cX1_lines 1 (some .int), Cond.methodLink RX3 180 yX1_characters, Cond.instanceMethod yX1_characters, Cond.selects RX1 yX1_characters yX1_characters, Cond.code yX1_characters cX1_characters 4 (some .int), Cond.methodLink RX1 38 yX0_size, Cond.methodLink RL 106 yX3_length, Cond.instanceMethod yX3_length, Cond.selects RX3 yX3_length yX3_length, Cond.code yX3_length cX3_length 3 (some .int), Cond.methodLink RX3 145 yX1_row, Cond.methodLink RL 109 yX3_would, Cond.instanceMethod yX3_would, Cond.selects RX3 yX3_would yX3_would, Cond.code yX3_would cX3_would 2 (some .int), Cond.methodLink RL 112 yX3_character, Cond.instanceMethod yX3_character, Cond.selects RX3 yX3_character yX3_character, Cond.code yX3_character cX3_character 3 (some .int)]
def wsL_law0_r14 : List Cond := [Cond.methodLink RL 121 yX3_page, Cond.instanceMethod yX3_page, Cond.selects RX3 yX3_page yX3_page, Cond.code yX3_page cX3_page 4 (some .int), Cond.methodLink RL 124 yX3_wrong, Cond.instanceMethod yX3_wrong, Cond.selects RX3 yX3_wrong yX3_wrong, Cond.code yX3_wrong cX3_wrong 4 (some .int), Cond.methodLink RL 128 yX3_idle, Cond.instanceMethod yX3_idle, Cond.selects RX3 yX3_idle yX3_idle, Cond.code yX3_idle cX3_idle 6 (some .int), Cond.methodLink RX3 168 yX3_isShift, Cond.static yX3_isShift, Cond.code yX3_isShift cX3_isShift 1 (some .boolean), Cond.methodLink RX3 171 yX3_servesBehind, Cond.instanceMethod yX3_servesBehind, Cond.selects RX3 yX3_servesBehind yX3_servesBehind, Cond.code yX3_servesBehind cX3_servesBehind 4 (some .boolean), Cond.methodLink RL 131 yX3_tape, Cond.instanceMethod yX3_tape, Cond.selects RX3 yX3_tape yX3_tape, Cond.code yX3_tape cX3_tape 2 (some .int), Cond.methodLink RL 133 yX3_prints]
def wsL_law0_r15 : List Cond := [Cond.instanceMethod yX3_prints, Cond.selects RX3 yX3_prints yX3_prints, Cond.code yX3_prints cX3_prints 2 (some .int), Cond.methodLink RL 136 yX4_isSame, Cond.instanceMethod yX4_isSame, Cond.selects RX4 yX4_isSame yX4_isSame, Cond.code yX4_isSame cX4_isSame 6 (some .boolean), Cond.fieldLink RX4 88 "TapePrinterLaw$Sim" "reader" "I", Cond.methodLink RX4 71 yX3_length, Cond.methodLink RX4 77 yX3_page, Cond.methodLink RX4 79 yX4_shifts, Cond.methodLink RX4 83 yX3_tape, Cond.methodLink RX4 85 yX3_prints, Cond.methodLink RX4 91 yX3_count, Cond.methodLink RX4 94 yX3_mean, Cond.instanceMethod yX3_mean, Cond.selects RX3 yX3_mean yX3_mean, Cond.code yX3_mean cX3_mean 2 (some .double)]
def wsL_law0 : List Cond := (wsL_law0_r1 ++ (wsL_law0_r2 ++ (wsL_law0_r3 ++ (wsL_law0_r4 ++ (wsL_law0_r5 ++ (wsL_law0_r6 ++ (wsL_law0_r7 ++ (wsL_law0_r8 ++ (wsL_law0_r9 ++ (wsL_law0_r10 ++ (wsL_law0_r11 ++ (wsL_law0_r12 ++ (wsL_law0_r13 ++ (wsL_law0_r14 ++ wsL_law0_r15)))))))))))))) ++ wsX30 ++ wsX40 ++ wsX20 ++ wsX10 ++ wsX00 ++ ([] : List Cond)
def wsL_law : List Cond := wsL_law0 ++ (vx_atS RX3 40 "java/lang/IndexOutOfBoundsException" ["java/lang/RuntimeException", "java/lang/Exception"]).filter goodWord ++ (vx_atS RX3 71 "java/lang/IllegalArgumentException" ["java/lang/RuntimeException", "java/lang/Exception"]).filter goodWord ++ (vx_atS RX3 103 "java/lang/IllegalStateException" ["java/lang/RuntimeException", "java/lang/Exception"]).filter goodWord
theorem in_pl {big ws : List Cond} (ps : List Nat) (h : ws = ps.filterMap (fun i => big[i]?)) : ∀ w ∈ ws, w ∈ big := by
  intro w hw
  rw [h] at hw
  obtain ⟨i, -, hi⟩ := List.mem_filterMap.mp hw
  exact List.mem_of_getElem? hi
theorem in_app {big a b : List Cond} (ha : ∀ w ∈ a, w ∈ big) (hb : ∀ w ∈ b, w ∈ big) : ∀ w ∈ a ++ b, w ∈ big := fun w h => (List.mem_append.mp h).elim (ha w) (hb w)
set_option maxRecDepth 20000 in
theorem wsL_law_q1 : ∀ w ∈ wsL_law0_r1, w ∈ lw_tbl := in_pl [22, 23, 10, 49, 547, 287, 21, 288, 511, 513, 24, 25, 26, 27, 28, 29, 30, 31, 11, 85, 64, 65, 13, 86] (by decide +kernel)
set_option maxRecDepth 20000 in
theorem wsL_law_q2 : ∀ w ∈ wsL_law0_r2, w ∈ lw_tbl := in_pl [83, 37, 12, 87, 32, 33, 34, 35, 36, 54, 55, 38, 39, 40, 41, 42, 50, 51, 52, 53, 43, 66, 67, 68] (by decide +kernel)
set_option maxRecDepth 20000 in
theorem wsL_law_q3 : ∀ w ∈ wsL_law0_r3, w ∈ lw_tbl := in_pl [69, 70, 73, 75, 72, 84, 486, 487, 9, 488, 489, 490, 14, 492, 493, 494, 498, 499, 365, 500, 506, 508, 510, 496] (by decide +kernel)
set_option maxRecDepth 100000 in
theorem wsL_law_act : lw_tbl[402]? = some (Cond.code yL_act cL_act 17 (some .boolean)) := by rfl
set_option maxRecDepth 20000 in
theorem wsL_law_q4 : ∀ w ∈ wsL_law0_r4, w ∈ lw_tbl := by
  show ∀ w ∈ [Cond.code yL_characters cL_characters 4 (some (.array .int)), Cond.methodLink RL 15 yL_codes, Cond.static yL_codes, Cond.code yL_codes cL_codes 3 (some (.array .int)), Cond.methodLink RL 9 yL_isType, Cond.static yL_isType, Cond.code yL_isType cL_isType 1 (some .boolean), Cond.methodLink RL 90 yL_cell, Cond.static yL_cell, Cond.code yL_cell cL_cell 2 (some .int), Cond.constant RL 8 (790386105), Cond.methodLink RL 94 yL_act, Cond.static yL_act] ++ (Cond.code yL_act cL_act 17 (some .boolean) :: [Cond.fieldLink RL 29 "TapePrinterLaw$Sim" "late" "[I", Cond.fieldLink RL 32 "TapePrinterLaw$Sim" "garble" "[I", Cond.fieldLink RL 41 "TapePrinterLaw$Sim" "play" "I", Cond.fieldLink RL 49 "TapePrinterLaw$Sim" "unshifts" "Z", Cond.methodLink RL 25 yL_below, Cond.static yL_below, Cond.code yL_below cL_below 2 (some .int), Cond.constant RL 7 (2147483647), Cond.methodLink RL 35 yX3_setLine, Cond.instanceMethod yX3_setLine]), w ∈ lw_tbl
  exact in_app (in_pl [497, 459, 460, 461, 462, 463, 464, 396, 397, 398, 399, 400, 401] (by decide +kernel)) (List.forall_mem_cons.mpr ⟨List.mem_of_getElem? wsL_law_act, in_pl [507, 509, 505, 503, 392, 393, 394, 395, 403, 404] (by decide +kernel)⟩)
set_option maxRecDepth 20000 in
theorem wsL_law_q5 : ∀ w ∈ wsL_law0_r5, w ∈ lw_tbl := in_pl [405, 406, 123, 18, 266, 19, 120, 121, 122, 410, 411, 412, 413, 214, 215, 216, 217, 218, 219, 220, 221, 414, 415, 416] (by decide +kernel)
set_option maxRecDepth 20000 in
theorem wsL_law_q6 : ∀ w ∈ wsL_law0_r6, w ∈ lw_tbl := in_pl [417, 418, 259, 260, 261, 419, 420, 421, 422, 326, 327, 328, 329, 56, 424, 425, 426, 427, 428, 429, 430, 431, 90, 202] (by decide +kernel)
set_option maxRecDepth 20000 in
theorem wsL_law_q7 : ∀ w ∈ wsL_law0_r7, w ∈ lw_tbl := in_pl [203, 204, 205, 206, 208, 1, 209, 91, 92, 210, 211, 212, 213, 222, 224, 2, 225, 89, 93, 94, 191, 192, 193, 194] (by decide +kernel)
set_option maxRecDepth 20000 in
theorem wsL_law_q8 : ∀ w ∈ wsL_law0_r8, w ∈ lw_tbl := in_pl [195, 196, 197, 199, 200, 201, 226, 227, 228, 229, 74, 230, 231, 232, 233, 234, 235, 236, 237, 238, 239, 240, 241, 242] (by decide +kernel)
set_option maxRecDepth 20000 in
theorem wsL_law_q9 : ∀ w ∈ wsL_law0_r9, w ∈ lw_tbl := in_pl [243, 245, 3, 246, 247, 249, 4, 250, 357, 358, 359, 360, 514, 515, 517, 501, 516, 361, 362, 363, 364, 374, 504, 367] (by decide +kernel)
set_option maxRecDepth 20000 in
theorem wsL_law_q10 : ∀ w ∈ wsL_law0_r10, w ∈ lw_tbl := in_pl [368, 369, 370, 371, 372, 373, 502, 432, 433, 434, 435, 436, 441, 20, 437, 438, 439, 440, 457, 282, 283, 284, 285, 458] (by decide +kernel)
set_option maxRecDepth 20000 in
theorem wsL_law_q11 : ∀ w ∈ wsL_law0_r11, w ∈ lw_tbl := in_pl [382, 383, 384, 465, 466, 467, 468, 469, 470, 471, 473, 474, 475, 476, 477, 478, 479, 481, 483, 8, 484, 353, 355, 7] (by decide +kernel)
set_option maxRecDepth 20000 in
theorem wsL_law_q12 : ∀ w ∈ wsL_law0_r12, w ∈ lw_tbl := in_pl [356, 257, 251, 252, 253, 254, 255, 258, 289, 290, 291, 292, 88, 262, 263, 264, 265, 286, 308, 309, 310, 311, 313, 315] (by decide +kernel)
set_option maxRecDepth 20000 in
theorem wsL_law_q13 : ∀ w ∈ wsL_law0_r13, w ∈ lw_tbl := in_pl [5, 316, 317, 318, 319, 320, 321, 322, 323, 324, 325, 303, 304, 305, 306, 301, 330, 331, 332, 333, 116, 117, 118, 119] (by decide +kernel)
set_option maxRecDepth 20000 in
theorem wsL_law_q14 : ∀ w ∈ wsL_law0_r14, w ∈ lw_tbl := in_pl [297, 298, 299, 300, 334, 335, 336, 337, 338, 339, 340, 341, 342, 343, 344, 345, 347, 6, 348, 293, 294, 295, 296, 349] (by decide +kernel)
set_option maxRecDepth 20000 in
theorem wsL_law_q15 : ∀ w ∈ wsL_law0_r15, w ∈ lw_tbl := in_pl [350, 351, 352, 375, 376, 377, 378, 512, 379, 380, 381, 385, 386, 387, 388, 389, 390, 391] (by decide +kernel)
set_option maxRecDepth 20000 in
theorem wsL_law_f3 : ∀ w ∈ wsX30, w ∈ lw_tbl := in_pl [95, 97, 99, 101, 103, 105, 107, 109, 111, 113] (by decide +kernel)
set_option maxRecDepth 20000 in
theorem wsL_law_f4 : ∀ w ∈ wsX40, w ∈ lw_tbl := in_pl [518, 520, 522, 524, 526, 528, 530, 532, 534, 536, 538, 540, 542, 544] (by decide +kernel)
set_option maxRecDepth 20000 in
theorem wsL_law_f2 : ∀ w ∈ wsX20, w ∈ lw_tbl := in_pl [57, 59, 61] (by decide +kernel)
set_option maxRecDepth 20000 in
theorem wsL_law_f1 : ∀ w ∈ wsX10, w ∈ lw_tbl := in_pl [76, 78, 80] (by decide +kernel)
set_option maxRecDepth 20000 in
theorem wsL_law_f0 : ∀ w ∈ wsX00, w ∈ lw_tbl := in_pl [44, 46] (by decide +kernel)
theorem wsL_law_in0 : ∀ w ∈ wsL_law0, w ∈ lw_tbl := in_app (in_app (in_app (in_app (in_app (in_app (in_app wsL_law_q1 (in_app wsL_law_q2 (in_app wsL_law_q3 (in_app wsL_law_q4 (in_app wsL_law_q5 (in_app wsL_law_q6 (in_app wsL_law_q7 (in_app wsL_law_q8 (in_app wsL_law_q9 (in_app wsL_law_q10 (in_app wsL_law_q11 (in_app wsL_law_q12 (in_app wsL_law_q13 (in_app wsL_law_q14 (wsL_law_q15))))))))))))))) wsL_law_f3) wsL_law_f4) wsL_law_f2) wsL_law_f1) wsL_law_f0) (fun _ h => nomatch h)
theorem wsL_law_x0 : ∀ w ∈ (vx_atS RX3 40 "java/lang/IndexOutOfBoundsException" ["java/lang/RuntimeException", "java/lang/Exception"]).filter goodWord, w ∈ lw_tbl := by decide +kernel
theorem wsL_law_x1 : ∀ w ∈ (vx_atS RX3 71 "java/lang/IllegalArgumentException" ["java/lang/RuntimeException", "java/lang/Exception"]).filter goodWord, w ∈ lw_tbl := by decide +kernel
theorem wsL_law_x2 : ∀ w ∈ (vx_atS RX3 103 "java/lang/IllegalStateException" ["java/lang/RuntimeException", "java/lang/Exception"]).filter goodWord, w ∈ lw_tbl := by decide +kernel
theorem wsL_law_in : ∀ w ∈ wsL_law, w ∈ lw_tbl := fun w h => (List.mem_append.mp h).elim (fun h => (List.mem_append.mp h).elim (fun h => (List.mem_append.mp h).elim (fun h => wsL_law_in0 w h) (fun h => wsL_law_x0 w h)) (fun h => wsL_law_x1 w h)) (fun h => wsL_law_x2 w h)
theorem inlX0 : ∀ w ∈ wsX00, w ∈ wsL_law := fun _ h => List.mem_append_left _ (List.mem_append_left _ (List.mem_append_left _ (List.mem_append_left _ (List.mem_append_right _ h))))
theorem inX0 : ∀ w ∈ wsX00, w ∈ lw_tbl := fun w h => wsL_law_in w (inlX0 w h)
theorem inlX1 : ∀ w ∈ wsX10, w ∈ wsL_law := fun _ h => List.mem_append_left _ (List.mem_append_left _ (List.mem_append_left _ (List.mem_append_left _ (List.mem_append_left _ (List.mem_append_right _ h)))))
theorem inX1 : ∀ w ∈ wsX10, w ∈ lw_tbl := fun w h => wsL_law_in w (inlX1 w h)
theorem inlX2 : ∀ w ∈ wsX20, w ∈ wsL_law := fun _ h => List.mem_append_left _ (List.mem_append_left _ (List.mem_append_left _ (List.mem_append_left _ (List.mem_append_left _ (List.mem_append_left _ (List.mem_append_right _ h))))))
theorem inX2 : ∀ w ∈ wsX20, w ∈ lw_tbl := fun w h => wsL_law_in w (inlX2 w h)
theorem inlX3 : ∀ w ∈ wsX30, w ∈ wsL_law := fun _ h => List.mem_append_left _ (List.mem_append_left _ (List.mem_append_left _ (List.mem_append_left _ (List.mem_append_left _ (List.mem_append_left _ (List.mem_append_left _ (List.mem_append_left _ (List.mem_append_right _ h))))))))
theorem inX3 : ∀ w ∈ wsX30, w ∈ lw_tbl := fun w h => wsL_law_in w (inlX3 w h)
theorem inlX4 : ∀ w ∈ wsX40, w ∈ wsL_law := fun _ h => List.mem_append_left _ (List.mem_append_left _ (List.mem_append_left _ (List.mem_append_left _ (List.mem_append_left _ (List.mem_append_left _ (List.mem_append_left _ (List.mem_append_right _ h)))))))
theorem inX4 : ∀ w ∈ wsX40, w ∈ lw_tbl := fun w h => wsL_law_in w (inlX4 w h)
theorem inX5 : ∀ w ∈ wsX50, w ∈ lw_tbl := by decide +kernel
theorem inJ9 : ∀ w ∈ wsJ90, w ∈ lw_tbl := by decide +kernel
theorem inJ0 : ∀ w ∈ wsJ00, w ∈ lw_tbl := by decide +kernel
end
