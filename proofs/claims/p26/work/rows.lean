section
-- ===== PART A: goes FIRST, ahead of the names: the tables' words, and 'selects' of the private methods out of them =====
/-- a private method of a class that the tables say can be made, by its rows of tables_1 -/
def lw_okq (q : MethodName × Nat) : Prop := (q.1.cls ≠ "java/lang/invoke/MethodHandle" ∧ q.1.cls ≠ "java/lang/invoke/VarHandle") ∧ Cond.instantiable q.1.cls q.2 ∈ tables_1 ∧ Cond.privateMethod q.1 ∈ tables_1 ∧ Cond.instanceMethod q.1 ∈ tables_1
theorem lw_p0 : lw_okq (⟨"java/lang/Throwable", "fillInStackTrace", "(I)Ljava/lang/Throwable;"⟩, 6) := ⟨⟨by decide +kernel, by decide +kernel⟩, List.mem_of_getElem? (i := 153) (by decide +kernel), List.mem_of_getElem? (i := 151) (by decide +kernel), List.mem_of_getElem? (i := 152) (by decide +kernel)⟩
theorem lw_p1 : lw_okq (⟨"TapePrinter", "takeIn", "(I)I"⟩, 10) := ⟨⟨by decide +kernel, by decide +kernel⟩, List.mem_of_getElem? (i := 14) (by decide +kernel), List.mem_of_getElem? (i := 198) (by decide +kernel), List.mem_of_getElem? (i := 199) (by decide +kernel)⟩
theorem lw_p2 : lw_okq (⟨"TapePrinter", "obey", "(I)V"⟩, 10) := ⟨⟨by decide +kernel, by decide +kernel⟩, List.mem_of_getElem? (i := 14) (by decide +kernel), List.mem_of_getElem? (i := 214) (by decide +kernel), List.mem_of_getElem? (i := 215) (by decide +kernel)⟩
theorem lw_p3 : lw_okq (⟨"TapePrinter", "figuresBehind", "(IZ)Z"⟩, 10) := ⟨⟨by decide +kernel, by decide +kernel⟩, List.mem_of_getElem? (i := 14) (by decide +kernel), List.mem_of_getElem? (i := 235) (by decide +kernel), List.mem_of_getElem? (i := 236) (by decide +kernel)⟩
theorem lw_p4 : lw_okq (⟨"TapePrinter", "shiftsToLetters", "(I)Z"⟩, 10) := ⟨⟨by decide +kernel, by decide +kernel⟩, List.mem_of_getElem? (i := 14) (by decide +kernel), List.mem_of_getElem? (i := 239) (by decide +kernel), List.mem_of_getElem? (i := 240) (by decide +kernel)⟩
theorem lw_p5 : lw_okq (⟨"TapePrinter", "counted", "(I)I"⟩, 10) := ⟨⟨by decide +kernel, by decide +kernel⟩, List.mem_of_getElem? (i := 14) (by decide +kernel), List.mem_of_getElem? (i := 305) (by decide +kernel), List.mem_of_getElem? (i := 306) (by decide +kernel)⟩
theorem lw_p6 : lw_okq (⟨"TapePrinter", "servesBehind", "(I)Z"⟩, 10) := ⟨⟨by decide +kernel, by decide +kernel⟩, List.mem_of_getElem? (i := 14) (by decide +kernel), List.mem_of_getElem? (i := 337) (by decide +kernel), List.mem_of_getElem? (i := 338) (by decide +kernel)⟩
theorem lw_p7 : lw_okq (⟨"TapePrinter", "figuresAhead", "(I)Z"⟩, 10) := ⟨⟨by decide +kernel, by decide +kernel⟩, List.mem_of_getElem? (i := 14) (by decide +kernel), List.mem_of_getElem? (i := 345) (by decide +kernel), List.mem_of_getElem? (i := 346) (by decide +kernel)⟩
theorem lw_p8 : lw_okq (⟨"TapePrinter", "figuresAtEnd", "()Z"⟩, 10) := ⟨⟨by decide +kernel, by decide +kernel⟩, List.mem_of_getElem? (i := 14) (by decide +kernel), List.mem_of_getElem? (i := 473) (by decide +kernel), List.mem_of_getElem? (i := 474) (by decide +kernel)⟩
def lw_privs_1 : List (MethodName × Nat) := [(⟨"java/lang/Throwable", "fillInStackTrace", "(I)Ljava/lang/Throwable;"⟩, 6), (⟨"TapePrinter", "takeIn", "(I)I"⟩, 10), (⟨"TapePrinter", "obey", "(I)V"⟩, 10), (⟨"TapePrinter", "figuresBehind", "(IZ)Z"⟩, 10), (⟨"TapePrinter", "shiftsToLetters", "(I)Z"⟩, 10), (⟨"TapePrinter", "counted", "(I)I"⟩, 10), (⟨"TapePrinter", "servesBehind", "(I)Z"⟩, 10), (⟨"TapePrinter", "figuresAhead", "(I)Z"⟩, 10), (⟨"TapePrinter", "figuresAtEnd", "()Z"⟩, 10)]
theorem lw_r1 : ∀ q ∈ lw_privs_1, lw_okq q := List.forall_mem_cons.mpr ⟨lw_p0, List.forall_mem_cons.mpr ⟨lw_p1, List.forall_mem_cons.mpr ⟨lw_p2, List.forall_mem_cons.mpr ⟨lw_p3, List.forall_mem_cons.mpr ⟨lw_p4, List.forall_mem_cons.mpr ⟨lw_p5, List.forall_mem_cons.mpr ⟨lw_p6, List.forall_mem_cons.mpr ⟨lw_p7, List.forall_mem_cons.mpr ⟨lw_p8, fun _ h => absurd h List.not_mem_nil⟩⟩⟩⟩⟩⟩⟩⟩⟩
def lw_privs : List (MethodName × Nat) := lw_privs_1
def lw_tbl : List Cond := k2_sels lw_privs ++ tables_1
theorem lw_privs_ok : ∀ q ∈ lw_privs, lw_okq q := lw_r1
/-- the streams that the claim lets the run draw from -/
abbrev lw_cs : List Choice := [Jvm.Choice.named "NaN.bits"]
theorem lw_bits : nanBits ∈ lw_cs := by first | decide | exact List.mem_cons_self | simp [lw_cs, nanBits]
end
section
/-! ===== BEGIN words of one list among another's, by their places ===== -/
theorem goodIn_r {big : List Cond} (ws : List Cond) (ps : List Nat) (hp : ws = ps.filterMap (fun i => big[i]?)) (h : ws.all goodWord = true) : GoodIn big ws := by
  intro w hw
  have h1 := List.all_eq_true.mp h w hw
  rw [hp] at hw
  obtain ⟨i, -, hi⟩ := List.mem_filterMap.mp hw
  have hm : w ∈ big := by first | exact List.mem_of_getElem? hi | exact List.getElem?_mem hi
  exact ⟨hm, good_of_word h1⟩
theorem goodIn_app {big a b : List Cond} (ha : GoodIn big a) (hb : GoodIn big b) : GoodIn big (a ++ b) := fun w h => (List.mem_append.mp h).elim (ha w) (hb w)
theorem goodIn_ca {big a b : List Cond} {c : Cond} (ha : GoodIn big (c :: a)) (hb : GoodIn big b) : GoodIn big (c :: (a ++ b)) := fun w h => (List.mem_cons.mp h).elim (fun e => ha w (List.mem_cons.mpr (Or.inl e))) (fun h => (List.mem_append.mp h).elim (fun h => ha w (List.mem_cons.mpr (Or.inr h))) (hb w))
theorem goodIn_sub {big ws : List Cond} (hm : ∀ w ∈ ws, w ∈ big) (h : ws.all goodWord = true) : GoodIn big ws := fun w hw => ⟨hm w hw, good_of_word (List.all_eq_true.mp h w hw)⟩
/-! ===== END ===== -/

/-! ===== BEGIN exceptions that leave a method, and their catching by the caller (launches without stack traces) ===== -/
section VXA
/-! The laws vx_back, vx_callV, vx_callS, vx_callSW, vx_throw0, vx_throwS follow proofs of the library, with one case more: JvmDerived/Free/Laws.lean (Back.of_free), Shelf42/LK1.lean (callV, callS), Shelf/KitTraced.lean (throwNew0V, throwNewS). -/
/-- where a method has thrown q: the class by its name, the cell, what was written, the world -/
def vx_T (XC : String → State → State → Prop) (st : State) (q : Addr) (t : State) (mc ms : Nat) (free : Addr → Prop) : Prop :=
  ∃ (E : String) (ce : Cell) (L : List Loc), XC E st t ∧ t.heap[q]? = some ce ∧ ce.vm = .none ∧ st.vm.findClass E = some ce.cls ∧ st.WarmedH t.vm ∧ st.sameButNew ({ t with vm := st.vm } : State) L mc ms ∧ ∀ z ∈ L, free z.base
def vx_Q (Qc : Array Value → State → Outcome → State → Prop) (XC : String → State → State → Prop) (mc ms : Nat) (free : Addr → Prop) : Array Value → State → Outcome → State → Prop := fun a st o t =>
  (Qc a st o t ∧ ∃ L, FrameEnd st o t L mc ms ∧ ∀ q ∈ L, free q.base) ∨ ∃ q, o = .threw q ∧ vx_T XC st q t mc ms free
/-- a callee that returns or throws -/
def vx_Met (l : Launch) (y : MethodName) (ws : List Cond) (rm : Room) (Pc : Array Value → State → Prop) (Qc : Array Value → State → Outcome → State → Prop) (XC : String → State → State → Prop) (mc ms : Nat) (free : Addr → Prop) : Prop :=
  MetFree l y (headSpec ws rm) Pc (fun _ _ _ _ _ => True) (vx_Q Qc XC mc ms free)
def vx_Post (XC : String → State → State → Prop) (mc ms : Nat) (free : Addr → Prop) : Pt → Array Value → Addr → Pt → Prop := fun A a q B =>
  ∃ (g : JFrame) (mk : MethodId) (t : State) (L : List Loc) (E : String) (ce : Cell), B.U.heap = t.heap ∧ B.U.vm = t.vm ∧ XC E (A.U.calling g mk a) t ∧ t.heap[q]? = some ce ∧ ce.vm = .none ∧ A.U.vm.findClass E = some ce.cls ∧ B.locs = A.locs ++ L ∧ (∀ z ∈ L, free z.base) ∧ B.cells = A.cells + mc ∧ B.slots = A.slots + ms
def vx_Back (l : Launch) (R : Room) (p : Program) (e : Env) (below : List Frame) (s : State) (sargs : Array Value) (y : MethodName) (len W9 : Nat)
    (Pre : Pt → Array Value → Prop) (Post : Pt → Array Value → Option Value → Pt → Prop) (PostX : Pt → Array Value → Addr → Pt → Prop) : Prop :=
  ∀ (m : MethodId) (meth : Method) (c : Code) (A : Pt) (g : JFrame) (ig : Instr) (mk : MethodId) (a : Array Value),
    Stand p l e R s m sargs below meth c A.U A.locs A.cells A.slots → g.method = m → g.locals.size = c.maxLocals → decode c.code g.pc = .ok (ig, len) →
    2 * g.monitorRoom + (g.stack.map fun v => v.category).sum ≤ W9 → A.U.methodNamed? y = some mk → Pre A a →
    (∃ (v : Option Value) (B : Pt), Stand p l e R s m sargs below meth c B.U B.locs B.cells B.slots ∧ Post A a v B ∧
      Steps p.tables e below (doInvoke e (A.U.setTop g) [] mk a).1 (B.U.setTop { g with pc := g.pc + len, stack := v.toList ++ g.stack })) ∨
    (∃ (q : Addr) (B : Pt), Stand p l e R s m sargs below meth c B.U B.locs B.cells B.slots ∧ PostX A a q B ∧
      Steps p.tables e below (doInvoke e (A.U.setTop g) [] mk a).1 ((B.U.setTop g).pushFrame (.throwing q)))
section Payer
variable {l : Launch} {R : Room} {p : Program} {e : Env} {below : List Frame} {s : State} {sargs : Array Value} {y : MethodName} {len W9 : Nat}
theorem vx_back {ws : List Cond} {rm : Room} {Pc : Array Value → State → Prop} {Qc : Array Value → State → Outcome → State → Prop} {XC : String → State → State → Prop} {mc ms : Nat} {free : Addr → Prop} {bytes : ByteArray} {maxL : Nat} {ret : Option FieldType}
    (hM : vx_Met l y ws rm Pc Qc XC mc ms free) (hblind : FrameBlind Pc) (hrc : rm.cells = mc) (hrs : rm.slots = ms)
    (hframes : rm.frames + 1 ≤ R.frames) (hlocals : W9 + (maxL + 11) + rm.locals ≤ R.locals)
    (hws : ∀ w ∈ ws, ∀ a' U, s.WarmedH U.vm → w.before a' U = true) (hcode : Cond.code y bytes maxL ret ∈ ws) (hinit : ∀ a' U, s.WarmedH U.vm → (Cond.initialized y.cls).before a' U = true) :
    vx_Back l R p e below s sargs y len W9 (PreOf R mc ms Pc) (PostOf Qc mc ms free) (vx_Post XC mc ms free) := by
  intro m meth c A g ig mk a X hg hsize hdg hW hn hp
  have h1 : (headSpec ws rm).pre.before a A.U = true := atoms_intro fun w hw => hws w hw _ _ X.warmed
  have h2 : (Cond.code y bytes maxL ret).before a A.U = true := hws _ hcode _ _ X.warmed
  have h3 : (Cond.initialized y.cls).before a A.U = true := hinit _ _ X.warmed
  have h4 : A.cells + (headSpec ws rm).room.cells ≤ R.cells := by rw [show (headSpec ws rm).room.cells = mc from hrc]; exact hp.1
  have h5 : A.slots + (headSpec ws rm).room.slots ≤ R.slots := by rw [show (headSpec ws rm).room.slots = ms from hrs]; exact hp.2.1
  have hPc : Pc a (A.U.calling g mk a) := hblind _ _ _ _ hp.2.2
  obtain ⟨U, Ls, c0, s0⟩ := A
  dsimp only [Pt.U, Pt.locs, Pt.cells, Pt.slots] at h1 h2 h3 h4 h5 X hn hPc ⊢
  obtain ⟨methY, cY, hmY, hcY, -, hlY, -, -, -, -⟩ := Cond.code_spec hn h2
  obtain ⟨kY, hkY, -⟩ := className_of_methodNamed hn
  have hinitY : kY.init = .initialized := Cond.initialized_spec (findClass_of_methodNamed hn) hkY h3
  have h : At U g.method c below := by rw [hg]; exact X.here
  have hlocals9 : W9 + (maxL + 11) + (headSpec ws rm).room.locals ≤ R.locals := hlocals
  have happ : (headSpec ws rm).appliesLoose y e.platform (U.calling g mk a) = true :=
    Spec.appliesLoose_calling (g := g) h hdg hn hkY hinitY
      (X.room_calling (g := g) (R' := (headSpec ws rm).room) hsize hmY hcY hframes (by rw [hlY]; omega) h4 h5) h1
  obtain ⟨mid, hmid⟩ := h.above
  have hfr : (U.setTop g).frames = (.java g :: mid) ++ below := by rw [State.frames_setTop' g h.top, hmid]; rfl
  obtain ⟨o, s₂, hsteps, -, hend, hq⟩ := Steps.callFree hM p X.admits X.cas X.clock (acts := []) hfr happ hPc trivial
  have hq' : vx_Q Qc XC mc ms free a (U.calling g mk a) o s₂ := hq
  rw [State.frames_setTop' g h.top] at hend
  obtain ⟨g₀, hg0⟩ := Option.isSome_iff_exists.mp h.top
  obtain ⟨r, hr⟩ := State.topJava?_eq_some.mp hg0
  have hr' : (({ U with heap := s₂.heap, slotsUsed := s₂.slotsUsed } : State).setVm s₂.vm).frames = .java g₀ :: r := hr
  rcases hq' with ⟨hqc, L, hfe, hL⟩ | ⟨q, rfl, E, ce, L, hx, hce, hcv, hcl, hW₂, hsm, hL⟩
  · obtain ⟨⟨v, rfl⟩, hW₂, e2, q2, q3, q4, q5, q6⟩ := id hfe
    have e3 : s₂ = ({ (U.calling g mk a).setFrames s₂.frames with heap := s₂.heap, slotsUsed := s₂.slotsUsed } : State).setVm s₂.vm := by
      have : s₂ = ({ s₂ with vm := (U.calling g mk a).vm } : State).setVm s₂.vm := rfl
      rw [e2] at this
      exact this
    obtain ⟨c₂, i₂, len₂, hc₂, hd₂, hf₂⟩ := hend
    have hW' : U.WarmedH s₂.vm := hW₂
    have hcc : c₂ = c := by
      have h1 : s₂.code? g.method = U.code? g.method := by
        rw [State.code?_eq, State.code?_eq, hW'.alike.method?]
      exact Option.some.inj (hc₂.symm.trans (h1.trans h.code))
    subst hcc
    have hlen : len₂ = len := by rw [hdg] at hd₂; cases hd₂; rfl
    subst hlen
    have hs₂ : s₂ = (({ U with heap := s₂.heap, slotsUsed := s₂.slotsUsed } : State).setVm s₂.vm).setTop { g with pc := g.pc + len₂, stack := v.toList ++ g.stack } := by
      refine e3.trans ?_
      rw [hf₂, State.calling_eq h.top, State.setFrames_setFrames, State.setTop_of_frames _ hr', hr]
      rfl
    have hsame : U.sameButNew ({ U with heap := s₂.heap, slotsUsed := s₂.slotsUsed } : State) L mc ms := by
      refine ⟨?_, q2, q3, q4, q5, q6⟩
      obtain ⟨t, ht, -⟩ := State.frames_cons hr
      show ({ U with heap := s₂.heap, slotsUsed := s₂.slotsUsed } : State) = { U.setFrames U.frames with heap := s₂.heap, slotsUsed := s₂.slotsUsed }
      rw [State.setFrames_self ht]
    subst hg
    refine Or.inl ⟨v, ⟨(({ U with heap := s₂.heap, slotsUsed := s₂.slotsUsed } : State).setVm s₂.vm), Ls ++ L, c0 + mc, s0 + ms⟩,
      ⟨X.admits, X.cas, X.clock, X.frames, X.room, X.hears, X.method, X.code, (X.here.setHeapUsed s₂.heap s₂.slotsUsed).setVm hW'.alike, X.tail, State.WarmedH.trans X.warmed hW', X.limits, X.bytes, X.same.trans (hsame.setVm s.vm)⟩,
      ⟨g, mk, s₂, L, rfl, rfl, hqc, rfl, hL, rfl, rfl⟩, ?_⟩
    show Steps p.tables e below _ ((({ U with heap := s₂.heap, slotsUsed := s₂.slotsUsed } : State).setVm s₂.vm).setTop { g with pc := g.pc + len₂, stack := v.toList ++ g.stack })
    rw [← hs₂]
    exact hsteps
  · obtain ⟨e2, q2, q3, q4, q5, q6⟩ := id hsm
    have e3 : s₂ = ({ (U.calling g mk a).setFrames s₂.frames with heap := s₂.heap, slotsUsed := s₂.slotsUsed } : State).setVm s₂.vm := by
      have : s₂ = ({ s₂ with vm := (U.calling g mk a).vm } : State).setVm s₂.vm := rfl
      rw [e2] at this
      exact this
    have hf₂ : s₂.frames = .throwing q :: .java g :: U.frames.tail := hend
    have hW' : U.WarmedH s₂.vm := hW₂
    have hs₂ : s₂ = ((({ U with heap := s₂.heap, slotsUsed := s₂.slotsUsed } : State).setVm s₂.vm).setTop g).pushFrame (.throwing q) := by
      refine e3.trans ?_
      rw [hf₂, State.calling_eq h.top, State.setFrames_setFrames, State.pushFrame, State.frames_setTop _ hr', State.setTop_of_frames _ hr', State.setFrames_setFrames, hr]
      rfl
    have hsame : U.sameButNew ({ U with heap := s₂.heap, slotsUsed := s₂.slotsUsed } : State) L mc ms := by
      refine ⟨?_, q2, q3, q4, q5, q6⟩
      obtain ⟨t, ht, -⟩ := State.frames_cons hr
      show ({ U with heap := s₂.heap, slotsUsed := s₂.slotsUsed } : State) = { U.setFrames U.frames with heap := s₂.heap, slotsUsed := s₂.slotsUsed }
      rw [State.setFrames_self ht]
    subst hg
    refine Or.inr ⟨q, ⟨(({ U with heap := s₂.heap, slotsUsed := s₂.slotsUsed } : State).setVm s₂.vm), Ls ++ L, c0 + mc, s0 + ms⟩,
      ⟨X.admits, X.cas, X.clock, X.frames, X.room, X.hears, X.method, X.code, (X.here.setHeapUsed s₂.heap s₂.slotsUsed).setVm hW'.alike, X.tail, State.WarmedH.trans X.warmed hW', X.limits, X.bytes, X.same.trans (hsame.setVm s.vm)⟩,
      ⟨g, mk, s₂, L, E, ce, rfl, rfl, hx, hce, hcv, hcl, rfl, hL, rfl, rfl⟩, ?_⟩
    show Steps p.tables e below _ (((({ U with heap := s₂.heap, slotsUsed := s₂.slotsUsed } : State).setVm s₂.vm).setTop g).pushFrame (.throwing q))
    rw [← hs₂]
    exact hsteps
end Payer
section Calls
variable {p : Program} {l : Launch} {e : Env} {R : Room} {s : State} {m : MethodId} {args : Array Value} {below : List Frame} {meth : Method} {c : Code} {T : State} {locs : List Loc} {cells slots : Nat}
theorem vx_callV (X : Stand p l e R s m args below meth c T locs cells slots) (hexec : p.tables.exec = Jvm.exec) {own C : String} {index : Nat} {y : MethodName} {bytes : ByteArray} {maxL : Nat} {ret : Option FieldType}
    (hown : s.vm.findClass own = some m.cls) (hlink : (Cond.methodLink own index y).before args s = true) (hinst : (Cond.instanceMethod y).before args s = true) (hsel : (Cond.selects C y y).before args s = true)
    (hcode : (Cond.code y bytes maxL ret).before args s = true) (hy : y.cls ≠ "java/lang/invoke/MethodHandle" ∧ y.cls ≠ "java/lang/invoke/VarHandle")
    {W9 : Nat} {Pre : Pt → Array Value → Prop} {Post : Pt → Array Value → Option Value → Pt → Prop} {PostX : Pt → Array Value → Addr → Pt → Prop} (hK : vx_Back l R p e below s args y 3 W9 Pre Post PostX)
    {b : Addr} {cellB : Cell} (hcell : T.heap[b]? = some cellB) (hobj : cellB.vm.isStatics = false) (hcls : s.vm.findClass C = some cellB.cls)
    {g : JFrame} (hg : g.method = m) (hsize : g.locals.size = c.maxLocals) {argsL rest : List Value} (hlen : ∀ sig, parseMethodDescriptor y.desc = some sig → argsL.length = sig.parameters.length)
    (hstack : g.stack = argsL.reverse ++ .ref b :: rest) (hW : 2 * g.monitorRoom + (rest.map fun v => v.category).sum ≤ W9) (hdg : decode c.code g.pc = .ok (.invokevirtual index, 3))
    (hpre : ∀ vm₁, s.WarmedH vm₁ → Pre ⟨T.setVm vm₁, locs, cells, slots⟩ (Value.ref b :: argsL).toArray) :
    (∃ (v : Option Value) (vm₁ : Vm) (B : Pt), s.WarmedH vm₁ ∧ Stand p l e R s m args below meth c B.U B.locs B.cells B.slots ∧ Post ⟨T.setVm vm₁, locs, cells, slots⟩ (Value.ref b :: argsL).toArray v B ∧
      ∀ target, Steps p.tables e below (B.U.setTop { g with pc := g.pc + 3, stack := v.toList ++ rest }) target → Steps p.tables e below (T.setTop g) target) ∨
    (∃ (q : Addr) (vm₁ : Vm) (B : Pt), s.WarmedH vm₁ ∧ Stand p l e R s m args below meth c B.U B.locs B.cells B.slots ∧ PostX ⟨T.setVm vm₁, locs, cells, slots⟩ (Value.ref b :: argsL).toArray q B ∧
      Steps p.tables e below (T.setTop g) ((B.U.setTop { g with stack := rest }).pushFrame (.throwing q))) := by
  obtain ⟨mk, methM, hnamed, hmethM, hstM, habM⟩ := Cond.instanceMethod_spec hinst
  obtain ⟨methM', cM, hmethM', -, -, -, -, -, -, hsigM⟩ := Cond.code_spec hnamed hcode
  cases hmethM.symm.trans hmethM'
  obtain ⟨c2, r2, m2, q1, q2, q3, q4, kP, hkP, hkPi⟩ := Cond.selects_spec hsel
  cases hcls.symm.trans q1
  cases (State.methodFound?_of_named hnamed hy).symm.trans q2
  cases hnamed.symm.trans q3
  have hselP : selectMethod e.platform s.vm cellB.cls mk = .method mk := by rw [Launch.admits_selectMethod X.admits]; exact q4
  obtain ⟨vm₁, X₁, hstep₁⟩ := X.invokevirtual hexec hown hlink hnamed hmethM hstM hkP hkPi hy (a := b) (cell := cellB) hcell
    (fun z h => by rw [h] at hobj; cases hobj) hselP hmethM habM hkP hkPi (g := g) hg (argsL := argsL) (rest := rest) (hlen _ hsigM) hstack hdg
  rcases hK m meth c ⟨T.setVm vm₁, locs, cells, slots⟩ { g with stack := rest } (.invokevirtual index) mk (Value.ref b :: argsL).toArray X₁ hg hsize hdg hW (X₁.named hnamed) (hpre vm₁ X₁.warmed) with ⟨v, B, X', hpost, hsteps⟩ | ⟨q, B, X', hpost, hsteps⟩
  · exact Or.inl ⟨v, vm₁, B, X₁.warmed, X', hpost, fun target h => hstep₁ _ fun acts => by rw [doInvoke_state]; exact hsteps.trans h⟩
  · exact Or.inr ⟨q, vm₁, B, X₁.warmed, X', hpost, hstep₁ _ fun acts => by rw [doInvoke_state]; exact hsteps⟩
theorem vx_callS (X : Stand p l e R s m args below meth c T locs cells slots) (hexec : p.tables.exec = Jvm.exec) {own : String} {index : Nat} {y : MethodName} {bytes : ByteArray} {maxL : Nat} {ret : Option FieldType}
    (hown : s.vm.findClass own = some m.cls) (hlink : (Cond.methodLink own index y).before args s = true) (hstat : (Cond.static y).before args s = true) (hinit : (Cond.initialized y.cls).before args s = true)
    (hcode : (Cond.code y bytes maxL ret).before args s = true) (hy : y.cls ≠ "java/lang/invoke/MethodHandle" ∧ y.cls ≠ "java/lang/invoke/VarHandle")
    {W9 : Nat} {Pre : Pt → Array Value → Prop} {Post : Pt → Array Value → Option Value → Pt → Prop} {PostX : Pt → Array Value → Addr → Pt → Prop} (hK : vx_Back l R p e below s args y 3 W9 Pre Post PostX)
    {g : JFrame} (hg : g.method = m) (hsize : g.locals.size = c.maxLocals) {argsL rest : List Value} (hlen : ∀ sig, parseMethodDescriptor y.desc = some sig → argsL.length = sig.parameters.length)
    (hstack : g.stack = argsL.reverse ++ rest) (hW : 2 * g.monitorRoom + (rest.map fun v => v.category).sum ≤ W9) (hdg : decode c.code g.pc = .ok (.invokestatic index, 3))
    (hpre : ∀ vm₁, s.WarmedH vm₁ → Pre ⟨T.setVm vm₁, locs, cells, slots⟩ argsL.toArray) :
    (∃ (v : Option Value) (vm₁ : Vm) (B : Pt), s.WarmedH vm₁ ∧ Stand p l e R s m args below meth c B.U B.locs B.cells B.slots ∧ Post ⟨T.setVm vm₁, locs, cells, slots⟩ argsL.toArray v B ∧
      ∀ target, Steps p.tables e below (B.U.setTop { g with pc := g.pc + 3, stack := v.toList ++ rest }) target → Steps p.tables e below (T.setTop g) target) ∨
    (∃ (q : Addr) (vm₁ : Vm) (B : Pt), s.WarmedH vm₁ ∧ Stand p l e R s m args below meth c B.U B.locs B.cells B.slots ∧ PostX ⟨T.setVm vm₁, locs, cells, slots⟩ argsL.toArray q B ∧
      Steps p.tables e below (T.setTop g) ((B.U.setTop { g with stack := rest }).pushFrame (.throwing q))) := by
  obtain ⟨mk, hnamed⟩ := Cond.code_named hcode
  obtain ⟨methM, cM, hmethM, -, -, -, -, -, -, hsigM⟩ := Cond.code_spec hnamed hcode
  have hstatic : methM.isStatic = true := Cond.static_spec hnamed hmethM hstat
  obtain ⟨kP, hkP, -⟩ := className_of_methodNamed hnamed
  have hinitP : kP.init = .initialized := Cond.initialized_spec (findClass_of_methodNamed hnamed) hkP hinit
  obtain ⟨vm₁, X₁, hstep₁⟩ := X.invokestatic hexec hown hlink hnamed hmethM hstatic hkP hinitP hy (g := g) hg (argsL := argsL) (rest := rest) (hlen _ hsigM) hstack hdg
  rcases hK m meth c ⟨T.setVm vm₁, locs, cells, slots⟩ { g with stack := rest } (.invokestatic index) mk argsL.toArray X₁ hg hsize hdg hW (X₁.named hnamed) (hpre vm₁ X₁.warmed) with ⟨v, B, X', hpost, hsteps⟩ | ⟨q, B, X', hpost, hsteps⟩
  · exact Or.inl ⟨v, vm₁, B, X₁.warmed, X', hpost, fun target h => hstep₁ _ fun acts => by rw [doInvoke_state]; exact hsteps.trans h⟩
  · exact Or.inr ⟨q, vm₁, B, X₁.warmed, X', hpost, hstep₁ _ fun acts => by rw [doInvoke_state]; exact hsteps⟩
end Calls
theorem vx_cls {s : State} {T : State} {vm₁ : Vm} {E : String} {k : ClassId} (hW : s.WarmedH vm₁) (h : (T.setVm vm₁).vm.findClass E = some k) : s.vm.findClass E = some k := by
  have h1 : vm₁.findClass E = some k := h
  rw [hW.alike.findClass] at h1
  exact h1
/-- the method's frame g, with q thrown over it -/
def vx_W (p : Program) (l : Launch) (e : Env) (R : Room) (s : State) (m : MethodId) (args : Array Value) (below : List Frame) (meth : Method) (c : Code) (H : Heap) (locs : List Loc) (cells slots : Nat) (Q : State → Prop) (g : JFrame) (q : Addr) : Prop :=
  ∀ T : State, T.heap = H → Stand p l e R s m args below meth c T locs cells slots → ∃ t, Steps p.tables e below ((T.setTop g).pushFrame (.throwing q)) t ∧ Q t
def vx_Run (p : Program) (l : Launch) (e : Env) (R : Room) (s : State) (m : MethodId) (args : Array Value) (below : List Frame) (meth : Method) (c : Code) (H : Heap) (locs : List Loc) (cells slots mc ms : Nat) (g : JFrame) (rest : List Value) (Qa : State → Outcome → State → Prop) (XC : String → State → State → Prop) (free : Addr → Prop) : Prop :=
  ∀ T : State, T.heap = H → Stand p l e R s m args below meth c T locs cells slots →
    (∃ (v : Option Value) (st₀ t T' : State) (L : List Loc), st₀.heap = H ∧ Stand p l e R s m args below meth c T' (locs ++ L) (cells + mc) (slots + ms) ∧ (∀ q ∈ L, free q.base) ∧ T'.heap = t.heap ∧ T'.vm = t.vm ∧ Qa st₀ (.returned v) t ∧
      Goes p e below T g T' { g with pc := g.pc + 3, stack := v.toList ++ rest }) ∨
    (∃ (q : Addr) (st₀ t T' : State) (L : List Loc) (E : String) (ce : Cell), st₀.heap = H ∧ Stand p l e R s m args below meth c T' (locs ++ L) (cells + mc) (slots + ms) ∧ (∀ z ∈ L, free z.base) ∧ T'.heap = t.heap ∧ T'.vm = t.vm ∧ XC E st₀ t ∧ t.heap[q]? = some ce ∧ ce.vm = .none ∧ s.vm.findClass E = some ce.cls ∧
      Steps p.tables e below (T.setTop g) ((T'.setTop { g with stack := rest }).pushFrame (.throwing q)))
def vx_X {S : Type} (px : S → Prop) (B : String → S → State → Prop) (A : Nat → Prop) : String → State → State → Prop := fun E st t => ∃ u : S, px u ∧ B E u t ∧ va_F A st t
section Runs
variable {p : Program} {l : Launch} {e : Env} {R : Room} {s : State} {m : MethodId} {args : Array Value} {below : List Frame} {meth : Method} {c : Code} {H : Heap} {locs : List Loc} {cells slots : Nat}
variable {y : MethodName} {bytes cc : ByteArray} {maxL nL mc ms n index : Nat} {ret : Option FieldType} {ws : List Cond} {rm : Room} {Pc : Array Value → State → Prop} {Qc : Array Value → State → Outcome → State → Prop} {XC : String → State → State → Prop} {free : Addr → Prop} {Ts : List Cond} {own C : String} {b : Addr} {As rest : List Value} {g : JFrame}
theorem vx_callBack (cb : CallB R s args own index y bytes maxL ret ws rm mc ms n) (hM : vx_Met l y ws rm Pc Qc XC mc ms free) (hbl : FrameBlind Pc) : vx_Back l R p e below s args y 3 8 (PreOf R mc ms Pc) (PostOf Qc mc ms free) (vx_Post XC mc ms free) := by
  obtain ⟨hrc, hrs, hfr, hlo, hws, hcw, -, hini, -⟩ := cb
  exact vx_back (bytes := bytes) (maxL := maxL) (ret := ret) hM hbl hrc hrs hfr hlo hws hcw (fun a' U hW => word_at hW (Or.inl (by first | rfl | simp [Cond.onTables, Cond.keeps, Cond.steady])) hini)
theorem vx_runV (S : CallFix p m c cc nL s args Ts own) (hM : vx_Met l y ws rm Pc Qc XC mc ms free) (cw : CallW R s args own C index y bytes maxL ret ws rm mc ms n) (hp : PreV s H C b Pc As)
    (hg : g.method = m) (hn : As.length = n) (hsize : g.locals.size = nL) (hstack : g.stack = As.reverse ++ .ref b :: rest) (hW : 2 * g.monitorRoom + (rest.map fun v => v.category).sum ≤ 8) (hdg : decode cc g.pc = .ok (.invokevirtual index, 3)) (hf : cells + mc ≤ R.cells ∧ slots + ms ≤ R.slots) :
    vx_Run p l e R s m args below meth c H locs cells slots mc ms g rest (Qc (Value.ref b :: As).toArray) XC free := by
  have hK : vx_Back l R p e below s args y 3 8 (PreOf R mc ms Pc) (PostOf Qc mc ms free) (vx_Post XC mc ms free) := vx_callBack cw.1 hM hp.1
  obtain ⟨⟨-, -, -, -, -, -, hcode, -, hy, hlen, hl⟩, hin, hse⟩ := cw
  obtain ⟨hx, hb, hml, ho, -⟩ := S
  obtain ⟨-, ⟨cellB, hcB, hoB, hclB⟩, hPc⟩ := hp
  intro T hT X
  rcases vx_callV X hx (C := C) (bytes := bytes) (maxL := maxL) (ret := ret) ho hl hin hse hcode hy hK (by rw [hT]; exact hcB) hoB hclB hg (hsize.trans hml.symm) (argsL := As) (rest := rest) (fun sig h => hn.trans (hlen sig h)) hstack hW (by rw [hb]; exact hdg)
    (fun vm₁ hW₁ => ⟨hf.1, hf.2, hPc (T.setVm vm₁) hT hW₁⟩) with ⟨v, vm₁, ⟨U', l2, c2, s2⟩, hW₁, X', ⟨g', mk, t, L, e1, e2, hq, h1, hL, h2, h3⟩, st⟩ | ⟨q, vm₁, ⟨U', l2, c2, s2⟩, hW₁, X', ⟨g', mk, t, L, E, ce, e1, e2, hq, hce, hcv, hcl, h1, hL, h2, h3⟩, st⟩
  · dsimp only [Pt.U, Pt.locs, Pt.cells, Pt.slots] at X' e1 e2 h1 h2 h3 st
    subst h1; subst h2; subst h3
    exact Or.inl ⟨v, (T.setVm vm₁).calling g' mk (Value.ref b :: As).toArray, t, U', L, hT, X', hL, e1, e2, hq, st⟩
  · dsimp only [Pt.U, Pt.locs, Pt.cells, Pt.slots] at X' e1 e2 h1 h2 h3 st hcl
    subst h1; subst h2; subst h3
    exact Or.inr ⟨q, (T.setVm vm₁).calling g' mk (Value.ref b :: As).toArray, t, U', L, E, ce, hT, X', hL, e1, e2, hq, hce, hcv, vx_cls hW₁ hcl, st⟩
theorem vx_runS (S : CallFix p m c cc nL s args Ts own) (hM : vx_Met l y ws rm Pc Qc XC mc ms free) (cw : CallB R s args own index y bytes maxL ret ws rm mc ms n ∧ (Cond.static y).before args s = true) (hp : PreS s H Pc As)
    (hg : g.method = m) (hn : As.length = n) (hsize : g.locals.size = nL) (hstack : g.stack = As.reverse ++ rest) (hW : 2 * g.monitorRoom + (rest.map fun v => v.category).sum ≤ 8) (hdg : decode cc g.pc = .ok (.invokestatic index, 3)) (hf : cells + mc ≤ R.cells ∧ slots + ms ≤ R.slots) :
    vx_Run p l e R s m args below meth c H locs cells slots mc ms g rest (Qc As.toArray) XC free := by
  have hK : vx_Back l R p e below s args y 3 8 (PreOf R mc ms Pc) (PostOf Qc mc ms free) (vx_Post XC mc ms free) := vx_callBack cw.1 hM hp.1
  obtain ⟨⟨-, -, -, -, -, -, hcode, hini, hy, hlen, hl⟩, hstt⟩ := cw
  obtain ⟨hx, hb, hml, ho, -⟩ := S
  intro T hT X
  rcases vx_callS X hx (bytes := bytes) (maxL := maxL) (ret := ret) ho hl hstt hini hcode hy hK hg (hsize.trans hml.symm) (argsL := As) (rest := rest) (fun sig h => hn.trans (hlen sig h)) hstack hW (by rw [hb]; exact hdg)
    (fun vm₁ hW₁ => ⟨hf.1, hf.2, hp.2 (T.setVm vm₁) hT hW₁⟩) with ⟨v, vm₁, ⟨U', l2, c2, s2⟩, hW₁, X', ⟨g', mk, t, L, e1, e2, hq, h1, hL, h2, h3⟩, st⟩ | ⟨q, vm₁, ⟨U', l2, c2, s2⟩, hW₁, X', ⟨g', mk, t, L, E, ce, e1, e2, hq, hce, hcv, hcl, h1, hL, h2, h3⟩, st⟩
  · dsimp only [Pt.U, Pt.locs, Pt.cells, Pt.slots] at X' e1 e2 h1 h2 h3 st
    subst h1; subst h2; subst h3
    exact Or.inl ⟨v, (T.setVm vm₁).calling g' mk As.toArray, t, U', L, hT, X', hL, e1, e2, hq, st⟩
  · dsimp only [Pt.U, Pt.locs, Pt.cells, Pt.slots] at X' e1 e2 h1 h2 h3 st hcl
    subst h1; subst h2; subst h3
    exact Or.inr ⟨q, (T.setVm vm₁).calling g' mk As.toArray, t, U', L, E, ce, hT, X', hL, e1, e2, hq, hce, hcv, vx_cls hW₁ hcl, st⟩
end Runs
section Rows
variable {p : Program} {l : Launch} {e : Env} {R : Room} {s : State} {m : MethodId} {args : Array Value} {below : List Frame} {meth : Method} {c : Code} {H : Heap} {locs : List Loc} {cells slots : Nat} {Q : State → Prop}
variable {mc ms : Nat} {free : Addr → Prop} {A0 A1 : Nat → Prop} {H0 : Heap} {a : Array Value} {pc : Nat} {ls : Array Slot} {st0 rest : List Value}
theorem vx_keep {st₀ t T' : State} {L : List Loc} (h0 : st₀.heap = H) (e1 : T'.heap = t.heap) (hS : va_S A0 H0 H locs) (hA : ∀ q, q < H.size → A1 q → A0 q) (hf : ∀ q, free q → A0 q) (hL : ∀ q ∈ L, free q.base) (hF : va_F A1 st₀ t) :
    H.size ≤ T'.heap.size ∧ (∀ q : Nat, q < H.size → ¬ A1 q → T'.heap[q]? = H[q]?) ∧ va_S A0 H0 T'.heap (locs ++ L) := by
  obtain ⟨hz, hk⟩ := hF
  rw [h0] at hz hk
  exact ⟨by rw [e1]; exact hz, fun q h1 h2 => by rw [e1]; exact hk q h1 h2,
    ⟨Nat.le_trans hS.1 (by rw [e1]; exact hz), fun q h1 h2 => by rw [e1, hk q (Nat.lt_of_lt_of_le h1 hS.1) (fun z => h2 (hA q (Nat.lt_of_lt_of_le h1 hS.1) z))]; exact hS.2.1 q h1 h2, fun q hq => by
      rcases List.mem_append.mp hq with h | h
      · exact hS.2.2 q h
      · exact hf _ (hL q h)⟩⟩
theorem vx_calli {S SX : Type} {post : Int32 → S → Prop} {px : SX → Prop} {B : S → State → Prop} {BX : String → SX → State → Prop} {AX : Nat → Prop} (hr : vx_Run p l e R s m args below meth c H locs cells slots mc ms (F0 m pc ls st0) rest (va_Qi post B A1 a) (vx_X px BX AX) free) (hS : va_S A0 H0 H locs) (hA : ∀ q, q < H.size → A1 q → A0 q) (hf : ∀ q, free q → A0 q) (hAX : ∀ q, q < H.size → AX q → A0 q)
    (kx : ∀ (E : String) (ce : Cell) (q9 : Addr) (u : SX) (t : State) (H1 : Heap) (locs1 : List Loc), t.heap = H1 → s.vm.Alike t.vm → px u → BX E u t → H.size ≤ H1.size → (∀ q : Nat, q < H.size → ¬ AX q → H1[q]? = H[q]?) → va_S A0 H0 H1 locs1 → H1[q9]? = some ce → ce.vm = .none → s.vm.findClass E = some ce.cls → vx_W p l e R s m args below meth c H1 locs1 (cells + mc) (slots + ms) Q (F0 m pc ls rest) q9)
    (kk : ∀ (r : Int32) (u : S) (t : State) (H1 : Heap) (locs1 : List Loc), t.heap = H1 → s.vm.Alike t.vm → post r u → B u t → H.size ≤ H1.size → (∀ q : Nat, q < H.size → ¬ A1 q → H1[q]? = H[q]?) → va_S A0 H0 H1 locs1 → W p l e R s m args below meth c H1 locs1 (cells + mc) (slots + ms) Q (F0 m (pc + 3) ls (.int r :: rest))) : W p l e R s m args below meth c H locs cells slots Q (F0 m pc ls st0) := by
  intro T hT X
  rcases hr T hT X with ⟨v, st₀, t, T', L, h0, X', hL, e1, e2, ⟨⟨r, u, hv, hp, hb⟩, hF⟩, st⟩ | ⟨q, st₀, t, T', L, E, ce, h0, X', hL, e1, e2, ⟨u, hp, hb, hF⟩, hce, hcv, hcl, st⟩
  · cases hv
    obtain ⟨k1, k2, k3⟩ := vx_keep h0 e1 hS hA hf hL hF
    obtain ⟨t2, a1, b1⟩ := kk r u t T'.heap (locs ++ L) e1.symm (by rw [← e2]; exact X'.warmed.alike) hp hb k1 k2 k3 T' rfl X'
    exact ⟨t2, st t2 a1, b1⟩
  · obtain ⟨k1, k2, k3⟩ := vx_keep h0 e1 hS hAX hf hL hF
    obtain ⟨t2, a1, b1⟩ := kx E ce q u t T'.heap (locs ++ L) e1.symm (by rw [← e2]; exact X'.warmed.alike) hp hb k1 k2 k3 (by rw [e1]; exact hce) hcv hcl T' rfl X'
    exact ⟨t2, st.trans a1, b1⟩
theorem vx_calll {S SX : Type} {post : Int64 → S → Prop} {px : SX → Prop} {B : S → State → Prop} {BX : String → SX → State → Prop} {AX : Nat → Prop} (hr : vx_Run p l e R s m args below meth c H locs cells slots mc ms (F0 m pc ls st0) rest (va_Ql post B A1 a) (vx_X px BX AX) free) (hS : va_S A0 H0 H locs) (hA : ∀ q, q < H.size → A1 q → A0 q) (hf : ∀ q, free q → A0 q) (hAX : ∀ q, q < H.size → AX q → A0 q)
    (kx : ∀ (E : String) (ce : Cell) (q9 : Addr) (u : SX) (t : State) (H1 : Heap) (locs1 : List Loc), t.heap = H1 → s.vm.Alike t.vm → px u → BX E u t → H.size ≤ H1.size → (∀ q : Nat, q < H.size → ¬ AX q → H1[q]? = H[q]?) → va_S A0 H0 H1 locs1 → H1[q9]? = some ce → ce.vm = .none → s.vm.findClass E = some ce.cls → vx_W p l e R s m args below meth c H1 locs1 (cells + mc) (slots + ms) Q (F0 m pc ls rest) q9)
    (kk : ∀ (r : Int64) (u : S) (t : State) (H1 : Heap) (locs1 : List Loc), t.heap = H1 → s.vm.Alike t.vm → post r u → B u t → H.size ≤ H1.size → (∀ q : Nat, q < H.size → ¬ A1 q → H1[q]? = H[q]?) → va_S A0 H0 H1 locs1 → W p l e R s m args below meth c H1 locs1 (cells + mc) (slots + ms) Q (F0 m (pc + 3) ls (.long r :: rest))) : W p l e R s m args below meth c H locs cells slots Q (F0 m pc ls st0) := by
  intro T hT X
  rcases hr T hT X with ⟨v, st₀, t, T', L, h0, X', hL, e1, e2, ⟨⟨r, u, hv, hp, hb⟩, hF⟩, st⟩ | ⟨q, st₀, t, T', L, E, ce, h0, X', hL, e1, e2, ⟨u, hp, hb, hF⟩, hce, hcv, hcl, st⟩
  · cases hv
    obtain ⟨k1, k2, k3⟩ := vx_keep h0 e1 hS hA hf hL hF
    obtain ⟨t2, a1, b1⟩ := kk r u t T'.heap (locs ++ L) e1.symm (by rw [← e2]; exact X'.warmed.alike) hp hb k1 k2 k3 T' rfl X'
    exact ⟨t2, st t2 a1, b1⟩
  · obtain ⟨k1, k2, k3⟩ := vx_keep h0 e1 hS hAX hf hL hF
    obtain ⟨t2, a1, b1⟩ := kx E ce q u t T'.heap (locs ++ L) e1.symm (by rw [← e2]; exact X'.warmed.alike) hp hb k1 k2 k3 (by rw [e1]; exact hce) hcv hcl T' rfl X'
    exact ⟨t2, st.trans a1, b1⟩
theorem vx_callf {S SX : Type} {post : UInt32 → S → Prop} {px : SX → Prop} {B : S → State → Prop} {BX : String → SX → State → Prop} {AX : Nat → Prop} (hr : vx_Run p l e R s m args below meth c H locs cells slots mc ms (F0 m pc ls st0) rest (va_Qf post B A1 a) (vx_X px BX AX) free) (hS : va_S A0 H0 H locs) (hA : ∀ q, q < H.size → A1 q → A0 q) (hf : ∀ q, free q → A0 q) (hAX : ∀ q, q < H.size → AX q → A0 q)
    (kx : ∀ (E : String) (ce : Cell) (q9 : Addr) (u : SX) (t : State) (H1 : Heap) (locs1 : List Loc), t.heap = H1 → s.vm.Alike t.vm → px u → BX E u t → H.size ≤ H1.size → (∀ q : Nat, q < H.size → ¬ AX q → H1[q]? = H[q]?) → va_S A0 H0 H1 locs1 → H1[q9]? = some ce → ce.vm = .none → s.vm.findClass E = some ce.cls → vx_W p l e R s m args below meth c H1 locs1 (cells + mc) (slots + ms) Q (F0 m pc ls rest) q9)
    (kk : ∀ (r : UInt32) (u : S) (t : State) (H1 : Heap) (locs1 : List Loc), t.heap = H1 → s.vm.Alike t.vm → post r u → B u t → H.size ≤ H1.size → (∀ q : Nat, q < H.size → ¬ A1 q → H1[q]? = H[q]?) → va_S A0 H0 H1 locs1 → W p l e R s m args below meth c H1 locs1 (cells + mc) (slots + ms) Q (F0 m (pc + 3) ls (.float r :: rest))) : W p l e R s m args below meth c H locs cells slots Q (F0 m pc ls st0) := by
  intro T hT X
  rcases hr T hT X with ⟨v, st₀, t, T', L, h0, X', hL, e1, e2, ⟨⟨r, u, hv, hp, hb⟩, hF⟩, st⟩ | ⟨q, st₀, t, T', L, E, ce, h0, X', hL, e1, e2, ⟨u, hp, hb, hF⟩, hce, hcv, hcl, st⟩
  · cases hv
    obtain ⟨k1, k2, k3⟩ := vx_keep h0 e1 hS hA hf hL hF
    obtain ⟨t2, a1, b1⟩ := kk r u t T'.heap (locs ++ L) e1.symm (by rw [← e2]; exact X'.warmed.alike) hp hb k1 k2 k3 T' rfl X'
    exact ⟨t2, st t2 a1, b1⟩
  · obtain ⟨k1, k2, k3⟩ := vx_keep h0 e1 hS hAX hf hL hF
    obtain ⟨t2, a1, b1⟩ := kx E ce q u t T'.heap (locs ++ L) e1.symm (by rw [← e2]; exact X'.warmed.alike) hp hb k1 k2 k3 (by rw [e1]; exact hce) hcv hcl T' rfl X'
    exact ⟨t2, st.trans a1, b1⟩
theorem vx_calld {S SX : Type} {post : UInt64 → S → Prop} {px : SX → Prop} {B : S → State → Prop} {BX : String → SX → State → Prop} {AX : Nat → Prop} (hr : vx_Run p l e R s m args below meth c H locs cells slots mc ms (F0 m pc ls st0) rest (va_Qd post B A1 a) (vx_X px BX AX) free) (hS : va_S A0 H0 H locs) (hA : ∀ q, q < H.size → A1 q → A0 q) (hf : ∀ q, free q → A0 q) (hAX : ∀ q, q < H.size → AX q → A0 q)
    (kx : ∀ (E : String) (ce : Cell) (q9 : Addr) (u : SX) (t : State) (H1 : Heap) (locs1 : List Loc), t.heap = H1 → s.vm.Alike t.vm → px u → BX E u t → H.size ≤ H1.size → (∀ q : Nat, q < H.size → ¬ AX q → H1[q]? = H[q]?) → va_S A0 H0 H1 locs1 → H1[q9]? = some ce → ce.vm = .none → s.vm.findClass E = some ce.cls → vx_W p l e R s m args below meth c H1 locs1 (cells + mc) (slots + ms) Q (F0 m pc ls rest) q9)
    (kk : ∀ (r : UInt64) (u : S) (t : State) (H1 : Heap) (locs1 : List Loc), t.heap = H1 → s.vm.Alike t.vm → post r u → B u t → H.size ≤ H1.size → (∀ q : Nat, q < H.size → ¬ A1 q → H1[q]? = H[q]?) → va_S A0 H0 H1 locs1 → W p l e R s m args below meth c H1 locs1 (cells + mc) (slots + ms) Q (F0 m (pc + 3) ls (.double r :: rest))) : W p l e R s m args below meth c H locs cells slots Q (F0 m pc ls st0) := by
  intro T hT X
  rcases hr T hT X with ⟨v, st₀, t, T', L, h0, X', hL, e1, e2, ⟨⟨r, u, hv, hp, hb⟩, hF⟩, st⟩ | ⟨q, st₀, t, T', L, E, ce, h0, X', hL, e1, e2, ⟨u, hp, hb, hF⟩, hce, hcv, hcl, st⟩
  · cases hv
    obtain ⟨k1, k2, k3⟩ := vx_keep h0 e1 hS hA hf hL hF
    obtain ⟨t2, a1, b1⟩ := kk r u t T'.heap (locs ++ L) e1.symm (by rw [← e2]; exact X'.warmed.alike) hp hb k1 k2 k3 T' rfl X'
    exact ⟨t2, st t2 a1, b1⟩
  · obtain ⟨k1, k2, k3⟩ := vx_keep h0 e1 hS hAX hf hL hF
    obtain ⟨t2, a1, b1⟩ := kx E ce q u t T'.heap (locs ++ L) e1.symm (by rw [← e2]; exact X'.warmed.alike) hp hb k1 k2 k3 (by rw [e1]; exact hce) hcv hcl T' rfl X'
    exact ⟨t2, st.trans a1, b1⟩
theorem vx_callv {S SX : Type} {post : S → Prop} {px : SX → Prop} {B : S → State → Prop} {BX : String → SX → State → Prop} {AX : Nat → Prop} (hr : vx_Run p l e R s m args below meth c H locs cells slots mc ms (F0 m pc ls st0) rest (va_Qv post B A1 a) (vx_X px BX AX) free) (hS : va_S A0 H0 H locs) (hA : ∀ q, q < H.size → A1 q → A0 q) (hf : ∀ q, free q → A0 q) (hAX : ∀ q, q < H.size → AX q → A0 q)
    (kx : ∀ (E : String) (ce : Cell) (q9 : Addr) (u : SX) (t : State) (H1 : Heap) (locs1 : List Loc), t.heap = H1 → s.vm.Alike t.vm → px u → BX E u t → H.size ≤ H1.size → (∀ q : Nat, q < H.size → ¬ AX q → H1[q]? = H[q]?) → va_S A0 H0 H1 locs1 → H1[q9]? = some ce → ce.vm = .none → s.vm.findClass E = some ce.cls → vx_W p l e R s m args below meth c H1 locs1 (cells + mc) (slots + ms) Q (F0 m pc ls rest) q9)
    (kk : ∀ (u : S) (t : State) (H1 : Heap) (locs1 : List Loc), t.heap = H1 → s.vm.Alike t.vm → post u → B u t → H.size ≤ H1.size → (∀ q : Nat, q < H.size → ¬ A1 q → H1[q]? = H[q]?) → va_S A0 H0 H1 locs1 → W p l e R s m args below meth c H1 locs1 (cells + mc) (slots + ms) Q (F0 m (pc + 3) ls (rest))) : W p l e R s m args below meth c H locs cells slots Q (F0 m pc ls st0) := by
  intro T hT X
  rcases hr T hT X with ⟨v, st₀, t, T', L, h0, X', hL, e1, e2, ⟨⟨u, hv, hp, hb⟩, hF⟩, st⟩ | ⟨q, st₀, t, T', L, E, ce, h0, X', hL, e1, e2, ⟨u, hp, hb, hF⟩, hce, hcv, hcl, st⟩
  · cases hv
    obtain ⟨k1, k2, k3⟩ := vx_keep h0 e1 hS hA hf hL hF
    obtain ⟨t2, a1, b1⟩ := kk u t T'.heap (locs ++ L) e1.symm (by rw [← e2]; exact X'.warmed.alike) hp hb k1 k2 k3 T' rfl X'
    exact ⟨t2, st t2 a1, b1⟩
  · obtain ⟨k1, k2, k3⟩ := vx_keep h0 e1 hS hAX hf hL hF
    obtain ⟨t2, a1, b1⟩ := kx E ce q u t T'.heap (locs ++ L) e1.symm (by rw [← e2]; exact X'.warmed.alike) hp hb k1 k2 k3 (by rw [e1]; exact hce) hcv hcl T' rfl X'
    exact ⟨t2, st.trans a1, b1⟩
/-- caught by the row x of this method's table; the rows ahead don't take it -/
theorem vx_catch {own name : String} {E : String} {ce : Cell} {q : Addr} (hown : s.vm.findClass own = some m.cls) (pre : List ExceptionTableEntry) (x : ExceptionTableEntry) (suf : List ExceptionTableEntry) (hsplit : c.exceptionTable.toList = pre ++ x :: suf)
    (hpass : ∀ z ∈ pre, covers z pc = false ∨ (z.catchType ≠ 0 ∧ ∃ nm : String, (Cond.classLink own z.catchType nm).before args s = true ∧ va_Nc E nm s)) (hx : covers x pc = true) (h0 : x.catchType ≠ 0)
    (hlink : (Cond.classLink own x.catchType name).before args s = true) (hcast : (Cond.castable E name).before args s = true) (hcell : H[q]? = some ce) (hv : ce.vm = .none) (hcl : s.vm.findClass E = some ce.cls)
    (kk : W p l e R s m args below meth c H locs cells slots Q (F0 m x.handlerPc ls [.ref q])) : vx_W p l e R s m args below meth c H locs cells slots Q (F0 m pc ls rest) q := by
  intro T hT X
  have hpl : e.platform.magicAccessors = ({} : Platform).magicAccessors := by rw [X.admits.platform]
  obtain ⟨c3, c4, hc3, hc4, hasg⟩ := Cond.castable_spec hcast
  cases Option.some.inj (hc3.symm.trans hcl)
  obtain ⟨c5, hc5, hcl5⟩ := Cond.classLink_spec hown hlink e.platform hpl
  cases Option.some.inj (hc4.symm.trans hc5)
  obtain ⟨vm', X', st⟩ := X.thenCaughtThrough q (g := F0 m pc ls rest) rfl (Steps.refl _) (by rw [hT]; exact hcell) (by rw [hv]; rfl) (by obtain ⟨k9, h9, -⟩ := Vm.findClass_spec hcl; exact ⟨k9, h9⟩) pre x suf hsplit
    (fun z hz => by
      rcases hpass z hz with h | ⟨hz0, nm, hl1, hn1⟩
      · exact Or.inl h
      · obtain ⟨c6, hc6, hcl6⟩ := Cond.classLink_spec hown hl1 e.platform hpl
        obtain ⟨a8, b8, h1, h2, h3⟩ := hn1
        cases Option.some.inj (h1.symm.trans hcl)
        cases Option.some.inj (h2.symm.trans hc6)
        exact Or.inr ⟨hz0, _, hcl6, h3⟩) hx (Or.inr ⟨h0, c4, hcl5, hasg⟩)
  obtain ⟨t, a1, b1⟩ := kk (T.setVm vm') hT X'
  exact ⟨t, st.trans a1, b1⟩
end Rows
section Ends
variable {p : Program} {l : Launch} {e : Env} {R : Room} {s : State} {m : MethodId} {args : Array Value} {below : List Frame} {meth : Method} {c : Code} {H : Heap} {locs : List Loc} {cells slots : Nat} {Q : State → Prop}
variable {mc ms : Nat} {free : Addr → Prop} {A0 A1 : Nat → Prop} {H0 : Heap} {a : Array Value} {ls : Array Slot} {st0 rest : List Value}
variable {Qc : Array Value → State → Outcome → State → Prop} {XC : String → State → State → Prop}
/-- what a body that may throw owes at its end -/
def vx_MQ (below : List Frame) (Qc : Array Value → State → Outcome → State → Prop) (XC : String → State → State → Prop) (a : Array Value) (s : State) (mc ms : Nat) (free : Addr → Prop) : State → Prop := fun t =>
  ∃ o, t.status = .running ∧ Ended t below o ∧ vx_Q Qc XC mc ms free a s o t
theorem vx_ret {g : JFrame} {mc ms : Nat} (k : W p l e R s m args below meth c H locs cells slots (MQ below Qc args s mc ms free) g) : W p l e R s m args below meth c H locs cells slots (vx_MQ below Qc XC args s mc ms free) g := by
  intro T hT X
  obtain ⟨t, a1, o, b1, b2, b3, b4⟩ := k T hT X
  exact ⟨t, a1, o, b1, b2, Or.inl ⟨b3, b4⟩⟩
/-- not caught here: it goes on to the caller -/
theorem vx_widen {g : JFrame} {q : Addr} {k n : Nat} (h1 : cells ≤ k) (h2 : slots ≤ n) (kk : vx_W p l e R s m args below meth c H locs k n Q g q) : vx_W p l e R s m args below meth c H locs cells slots Q g q := fun T hT X => kk T hT (stand_widen X h1 h2)
theorem vx_out {pc : Nat} {E : String} {ce : Cell} {q : Addr} {mc ms : Nat} (hout : ∀ x ∈ c.exceptionTable.toList, covers x pc = false) (hlocks : meth.locks = false) (hcell : H[q]? = some ce) (hv : ce.vm = .none) (hcl : s.vm.findClass E = some ce.cls)
    (hx : ∀ t : State, t.heap = H → s.vm.Alike t.vm → XC E s t) (hf : ∀ z ∈ locs, free z.base) (hc : cells ≤ mc) (hs : slots ≤ ms) :
    vx_W p l e R s m args below meth c H locs cells slots (vx_MQ below Qc XC args s mc ms free) (F0 m pc ls rest) q := by
  intro T hT X
  obtain ⟨st1, hrun, hend, hW, hsm⟩ := X.leaveThrown q (g := F0 m pc ls rest) rfl rfl rfl hout hlocks
  have hcell9 : (T.setFrames (.throwing q :: below)).heap[q]? = some ce := by
    show T.heap[q]? = some ce
    rw [hT]; exact hcell
  exact ⟨_, st1, .threw q, hrun, hend, Or.inr ⟨q, rfl, E, ce, locs, hx _ hT hW.alike, hcell9, hv, hcl, hW, hsm.mono hc hs, hf⟩⟩
theorem vx_frame {U : State} {k n : Nat} (h : s.sameButNew ({ U with vm := s.vm } : State) locs k n) : s.heap.size ≤ U.heap.size ∧ ∀ q : Nat, q < s.heap.size → (∀ z ∈ locs, z.base ≠ q) → U.heap[q]? = s.heap[q]? := by
  obtain ⟨-, h2, -, -, -, h6⟩ := h
  refine ⟨h2, fun q hq hz => ?_⟩
  obtain ⟨c9, e1, e2, e3, e4⟩ := h6 q _ (Array.getElem?_eq_getElem hq)
  have hs : c9.slots = (s.heap[q]).slots := Array.ext_getElem? fun i => e4 i fun hm => hz _ hm rfl
  have h9 : c9 = s.heap[q] := by
    rw [hs] at e2
    exact e2
  have e5 : U.heap[q]? = some c9 := e1
  rw [e5, h9, Array.getElem?_eq_getElem hq]
/-- the words of a throw but the four that speak of the heap -/
def vx_no (w : Cond) : Bool := decide (w ≠ .isRef (.static Bundle.tN "UNASSIGNED_STACK" Bundle.steD)) && decide (w ≠ .isRef (.static Bundle.tN "SUPPRESSED_SENTINEL" Bundle.listD)) && decide (w ≠ .laysStatic Bundle.tN "UNASSIGNED_STACK" Bundle.steD) && decide (w ≠ .laysStatic Bundle.tN "SUPPRESSED_SENTINEL" Bundle.listD)
def vx_at0 (own : String) (ic : Nat) (X : String) (names : List String) : List Cond := (Bundle.ownAtoms0 own ic X names).filter vx_no
def vx_atS (own : String) (ic : Nat) (X : String) (names : List String) : List Cond := (Bundle.ownAtoms own ic X names).filter vx_no
/-- a word that the tables alone decide, or a good one -/
def vx_ot (w : Cond) : Bool := w.onTables || goodWord w
theorem vx_ot_at {args a' : Array Value} {s U : State} {w : Cond} (hW : s.WarmedH U.vm) (hvm : s.vm = U.vm) (hg : vx_ot w = true) (h : w.before args s = true) : w.before a' U = true := by
  simp only [vx_ot, Bool.or_eq_true] at hg
  rcases hg with hg | hg
  · exact va_tabs hg hvm h
  · exact word_at hW (good_of_word hg) h
/-- a list's words: the good ones out of the method's own list, the others by premises of their own -/
theorem vx_hat {args : Array Value} {s : State} {L B : List Cond} (h1 : ∀ w ∈ L.filter goodWord, w.before args s = true) (h2 : ∀ w ∈ L.filter (fun w => !goodWord w), w ∈ B) (h3 : ∀ w ∈ B, w.before args s = true) : ∀ w ∈ L, w.before args s = true := by
  intro w hw
  by_cases g : goodWord w = true
  · exact h1 w (List.mem_filter.mpr ⟨hw, g⟩)
  · refine h3 w (h2 w (List.mem_filter.mpr ⟨hw, ?_⟩))
    show (!goodWord w) = true
    cases hgw : goodWord w
    · rfl
    · exact absurd hgw g
theorem vx_c {args : Array Value} {s : State} {w : Cond} {B : List Cond} (h : w.before args s = true) (t : ∀ w ∈ B, w.before args s = true) : ∀ w' ∈ w :: B, w'.before args s = true := fun w' h' => (List.mem_cons.mp h').elim (fun e => by rw [e]; exact h) (t w')
theorem vx_n {args : Array Value} {s : State} : ∀ w ∈ ([] : List Cond), w.before args s = true := fun _ h => nomatch h
theorem vx_own {args : Array Value} {s : State} {L : List Cond} (h1 : ∀ w ∈ L.filter vx_no, w.before args s = true)
    (hU : (Cond.isRef (.static Bundle.tN "UNASSIGNED_STACK" Bundle.steD)).before args s = true) (hN : (Cond.isRef (.static Bundle.tN "SUPPRESSED_SENTINEL" Bundle.listD)).before args s = true)
    (lU : (Cond.laysStatic Bundle.tN "UNASSIGNED_STACK" Bundle.steD).before args s = true) (lN : (Cond.laysStatic Bundle.tN "SUPPRESSED_SENTINEL" Bundle.listD).before args s = true) : ∀ w ∈ L, w.before args s = true := by
  intro w hw
  by_cases e1 : w = .isRef (.static Bundle.tN "UNASSIGNED_STACK" Bundle.steD)
  · rw [e1]; exact hU
  · by_cases e2 : w = .isRef (.static Bundle.tN "SUPPRESSED_SENTINEL" Bundle.listD)
    · rw [e2]; exact hN
    · by_cases e3 : w = .laysStatic Bundle.tN "UNASSIGNED_STACK" Bundle.steD
      · rw [e3]; exact lU
      · by_cases e4 : w = .laysStatic Bundle.tN "SUPPRESSED_SENTINEL" Bundle.listD
        · rw [e4]; exact lN
        · exact h1 w (List.mem_filter.mpr ⟨hw, by unfold vx_no; rw [decide_eq_true e1, decide_eq_true e2, decide_eq_true e3, decide_eq_true e4]; rfl⟩)
/-- where a static field lies, its class's statics cell in H -/
def vx_L (C n d : String) (A : Nat → Prop) (U : State) (H : Heap) : Prop := ∃ (c : ClassId) (k : Class) (i : Nat) (f : Field) (a : Nat) (cell : Cell), U.vm.findClass C = some c ∧ U.fieldFound? C n d = some (c, k, i, f) ∧ f.isStatic = true ∧ k.statics = some a ∧ H[a]? = some cell ∧ cell.vm.isStatics = true ∧ cell.cls = c ∧ f.slot < cell.slots.size ∧ k.staticTypes[f.slot]? = some f.type ∧ ¬ A a
theorem vx_L.moved {C n d : String} {A : Nat → Prop} {u U : State} {H : Heap} (hvm : u.vm.Alike U.vm) (h : vx_L C n d A u H) : vx_L C n d A U H := by
  obtain ⟨c, k, i, f, a, cell, h1, h2, h3, h4, h5, h6, h7, h8, h9, h10⟩ := h
  obtain ⟨k', hi', he⟩ := State.fieldFound?_setVm hvm h2
  exact ⟨c, k', i, f, a, cell, by rw [hvm.findClass]; exact h1, hi', h3, by rw [he]; exact h4, h5, h6, h7, h8, by rw [he]; exact h9, h10⟩
theorem vx_L.kept {C n d : String} {A : Nat → Prop} {U : State} {H H1 : Heap} (h : vx_L C n d A U H) (hq : ∀ a : Nat, a < H.size → ¬ A a → H1[a]? = H[a]?) : vx_L C n d A U H1 := by
  obtain ⟨c, k, i, f, a, cell, h1, h2, h3, h4, h5, h6, h7, h8, h9, h10⟩ := h
  exact ⟨c, k, i, f, a, cell, h1, h2, h3, h4, by rw [hq a (Array.getElem?_eq_some_iff.mp h5).1 h10]; exact h5, h6, h7, h8, h9, h10⟩
theorem vx_L.narrow {C n d : String} {A B : Nat → Prop} {U : State} {H : Heap} (h : vx_L C n d A U H) (hAB : ∀ q, B q → A q) : vx_L C n d B U H := by
  obtain ⟨c, k, i, f, a, cell, h1, h2, h3, h4, h5, h6, h7, h8, h9, h10⟩ := h
  exact ⟨c, k, i, f, a, cell, h1, h2, h3, h4, h5, h6, h7, h8, h9, fun z => h10 (hAB _ z)⟩
theorem vx_L.word {C n d : String} {A : Nat → Prop} {s : State} {args : Array Value} (h : vx_L C n d A s s.heap) : (Cond.laysStatic C n d).before args s = true := by
  obtain ⟨c, k, i, f, a, cell, h1, h2, h3, h4, h5, h6, h7, h8, h9, -⟩ := h
  show (Cond.laysStatic C n d).holds args s none s [] = true
  exact Cond.laysStatic_of h1 h2 h3 h4 h5 h6 h7 h8 h9
/-- .. and what it holds: null or some reference -/
def vx_Zq (C n d : String) (A : Nat → Prop) (U : State) (H : Heap) : Prop := va_Zq C n d A U H ∧ vx_L C n d A U H
theorem vx_Zq.moved {C n d : String} {A : Nat → Prop} {u U : State} {H : Heap} (hvm : u.vm.Alike U.vm) (h : vx_Zq C n d A u H) : vx_Zq C n d A U H := ⟨va_Zq.moved hvm h.1, vx_L.moved hvm h.2⟩
theorem vx_Zq.kept {C n d : String} {A : Nat → Prop} {U : State} {H H1 : Heap} (h : vx_Zq C n d A U H) (hq : ∀ a : Nat, a < H.size → ¬ A a → H1[a]? = H[a]?) : vx_Zq C n d A U H1 := ⟨va_Zq.kept h.1 hq, vx_L.kept h.2 hq⟩
theorem vx_Zq.narrow {C n d : String} {A B : Nat → Prop} {U : State} {H : Heap} (h : vx_Zq C n d A U H) (hAB : ∀ q, B q → A q) : vx_Zq C n d B U H := ⟨va_Zq.narrow h.1 hAB, vx_L.narrow h.2 hAB⟩
theorem vx_Zqof {args : Array Value} {s : State} {C n d : String} {A : Nat → Prop} (hl : (Cond.laysStatic C n d).before args s = true) (hini : (Cond.initialized C).before args s = true) (h : (Cond.isRef (.static C n d)).before args s = true) (hA : ∀ a : Nat, a < s.heap.size → ¬ A a) : vx_Zq C n d A s s.heap := by
  refine ⟨va_Zqof hl hini h hA, ?_⟩
  obtain ⟨c, k, i, f, a, cell, h1, h2, h3, h4, h5, h6, h7, h8, h9⟩ := Cond.laysStatic_spec hl
  exact ⟨c, k, i, f, a, cell, h1, h2, h3, h4, h5, h6, h7, h8, h9, hA a (Array.getElem?_eq_some_iff.mp h5).1⟩
theorem vx_isRef {C n d : String} {v : Value} {A : Nat → Prop} {s : State} {args : Array Value} (h : va_Z C n d v A s s.heap) (hv : v.isRef = true) : (Cond.isRef (.static C n d)).before args s = true := by
  obtain ⟨cf, kf, fi, f, a, cell, h1, h2, h3, h4, h5, h6, h7, -⟩ := h
  have he : (Term.static C n d).eval args s none [] s = some v := by
    simp [Term.eval, State.fieldNamed?, h1, h2, h4, h5, h6, h7]
  simp only [Cond.before, Cond.holds, Cond.value, he]
  cases v <;> simp_all [Value.isRef]
theorem vx_isRefq {C n d : String} {A : Nat → Prop} {s : State} {args : Array Value} (h : va_Zq C n d A s s.heap) : (Cond.isRef (.static C n d)).before args s = true := by
  rcases h with h | ⟨t, h⟩
  · exact vx_isRef h rfl
  · exact vx_isRef h rfl
/-- the same frame, seen from here: as if the method were called anew in this heap -/
theorem vx_rebase {T : State} (X : Stand p l e R s m args below meth c T locs cells slots) {R' : Room} (hf : R'.frames ≤ R.frames) (hl : R'.locals ≤ R.locals) (hc : cells + R'.cells ≤ R.cells) (hs : slots + R'.slots ≤ R.slots) :
    Stand p l e R' ((T.setVm s.vm).setFrames (.invoking m args :: below)) m args below meth c T [] 0 0 := by
  have htop : (T.setVm s.vm).topJava?.isSome := X.here.top
  have hF : ((T.setVm s.vm).setFrames (.invoking m args :: below)).frames = .invoking m args :: below := State.frames_setFrames _ (State.cur_lt_of_top htop)
  obtain ⟨g₀, hg0⟩ := Option.isSome_iff_exists.mp htop
  obtain ⟨r, hr⟩ := State.topJava?_eq_some.mp hg0
  have hl9 : e.platform.stackLimits (T.setVm s.vm).me = e.platform.stackLimits s.me := X.limits
  have hb9 : (T.setVm s.vm).me.stackBytes = s.me.stackBytes := X.bytes
  refine ⟨X.admits, X.cas, X.clock, hF, ?_, X.hears, X.method, X.code, X.here, X.tail, X.warmed, ?_, ?_, ?_⟩
  · have h := X.room
    have hU : ((T.setVm s.vm).setFrames (.invoking m args :: below)).localsInUse = s.localsInUse := by
      rw [State.localsInUse_invoking hF (meth := meth) (c := c) X.method X.code, State.localsInUse_invoking X.frames X.method X.code]
    simp only [State.hasRoom, Bool.and_eq_true, decide_eq_true_eq] at h ⊢
    obtain ⟨⟨⟨⟨h1, h2, h3, h4, h5, h6⟩, h7⟩, h8⟩, h9⟩ := h
    rw [X.frames, List.length_cons] at h2 h3
    have q1 := X.heapSize
    have q2 := X.used
    simp only [hF, hU, List.length_cons, State.stackLimits_setFrames, State.stackBytes_setFrames, hl9, hb9]
    refine ⟨⟨⟨⟨by omega, by omega, by omega, by omega, by omega, h6⟩, ?_⟩, ?_⟩, X.book⟩
    · show T.heap.size + R'.cells ≤ e.platform.maxCells
      omega
    · show T.slotsUsed + R'.slots ≤ e.platform.maxSlots
      omega
  · rw [State.stackLimits_setFrames]; rfl
  · rw [State.stackBytes_setFrames]; rfl
  · refine ⟨?_, Nat.le_refl _, Nat.le_refl _, ?_, ?_, fun a c9 h9 => ⟨c9, h9, rfl, rfl, fun _ _ => rfl⟩⟩
    · obtain ⟨t, ht, -⟩ := State.frames_cons hr
      show T.setVm s.vm = { ((T.setVm s.vm).setFrames (.invoking m args :: below)).setFrames (T.setVm s.vm).frames with heap := T.heap, slotsUsed := T.slotsUsed }
      rw [State.setFrames_setFrames, State.setFrames_self ht]
      rfl
    · show T.slotsUsed = T.slotsUsed + ((T.heap.toList.drop T.heap.size).map (·.slots.size)).sum
      rw [List.drop_eq_nil_of_le (Nat.le_of_eq Array.length_toList)]
      rfl
    · show ((T.heap.toList.drop T.heap.size).map (·.slots.size)).sum ≤ 0
      rw [List.drop_eq_nil_of_le (Nat.le_of_eq Array.length_toList)]
      exact Nat.le_refl _
/-- 'throw new E()': new; dup; invokespecial; athrow -/
theorem vx_throw0 {cc : ByteArray} {pc : Nat} (hexec : p.tables.exec = Jvm.exec) (hb : c.code = cc) (hl : l.stackTraces = false) {own cls : String} {names : List String} {ik ic mc ms : Nat} {A : Nat → Prop}
    (hown : s.vm.findClass own = some m.cls) (hcls : Bundle.fit cls = true) (hnames : ∀ n ∈ names, Bundle.fit n = true)
    (hk : (Cond.classLink own ik cls).before args s = true) (hini : (Cond.initialized cls).before args s = true) (hat : ∀ w ∈ vx_at0 own ic cls names, w.before args s = true)
    (hgood : ∀ w ∈ Cond.classLink own ik cls :: Cond.initialized cls :: vx_at0 own ic cls names, vx_ot w = true)
    (hU : vx_Zq Bundle.tN "UNASSIGNED_STACK" Bundle.steD A s s.heap) (hN : vx_Zq Bundle.tN "SUPPRESSED_SENTINEL" Bundle.listD A s s.heap) (hS : va_S A s.heap H locs) (hsize : ls.size = c.maxLocals)
    (d0 : decode cc pc = .ok (.new ik, 3)) (d3 : decode cc (pc + 3) = .ok (.dup, 1)) (d4 : decode cc (pc + 4) = .ok (.invokespecial ic, 3)) (d7 : decode cc (pc + 7) = .ok (.athrow, 1))
    (hout : ∀ x ∈ c.exceptionTable.toList, covers x (pc + 7) = false)
    (hRframes : names.length + 3 < R.frames) (hRlocals : (rest.map fun v => v.category).sum + (13 * (names.length + 1) + 42) ≤ R.locals) (hRcells : cells + 1 ≤ R.cells) (hRslots : slots + 6 ≤ R.slots) (hlocks : meth.locks = false)
    (hx : ∀ t : State, s.vm.Alike t.vm → H.size ≤ t.heap.size → (∀ q : Nat, q < H.size → t.heap[q]? = H[q]?) → XC cls s t)
    (hf : ∀ z ∈ locs, free z.base) (hc : cells + 1 ≤ mc) (hs : slots + 6 ≤ ms) :
    W p l e R s m args below meth c H locs cells slots (vx_MQ below Qc XC args s mc ms free) (F0 m pc ls rest) := by
  intro T hT X
  have htr : e.platform.stackTraces = false := (show e.platform.stackTraces = l.stackTraces by rw [X.admits.platform]).trans hl
  have Y := vx_rebase X (R' := { frames := R.frames, locals := R.locals, cells := 1, slots := 6 }) (Nat.le_refl _) (Nat.le_refl _) hRcells hRslots
  obtain ⟨s', hA⟩ : ∃ z, z = (T.setVm s.vm).setFrames (.invoking m args :: below) := ⟨_, rfl⟩
  rw [← hA] at Y
  have hvm : s'.vm = s.vm := by rw [hA]; rfl
  have hhp : s'.heap = H := by rw [hA]; exact hT
  have hW0 : s.WarmedH s'.vm := by rw [hvm]; exact State.WarmedH.refl s
  have hat' : ∀ w ∈ vx_at0 own ic cls names, w.before args s' = true := fun w hw => vx_ot_at hW0 hvm.symm (hgood w (List.mem_cons_of_mem _ (List.mem_cons_of_mem _ hw))) (hat w hw)
  have hk' : (Cond.classLink own ik cls).before args s' = true := vx_ot_at hW0 hvm.symm (hgood _ List.mem_cons_self) hk
  have hini' : (Cond.initialized cls).before args s' = true := vx_ot_at hW0 hvm.symm (hgood _ (List.mem_cons_of_mem _ List.mem_cons_self)) hini
  have hU' : vx_Zq Bundle.tN "UNASSIGNED_STACK" Bundle.steD A s' s'.heap := by rw [hhp]; exact vx_Zq.moved hW0.alike (hU.kept hS.2.1)
  have hN' : vx_Zq Bundle.tN "SUPPRESSED_SENTINEL" Bundle.listD A s' s'.heap := by rw [hhp]; exact vx_Zq.moved hW0.alike (hN.kept hS.2.1)
  have h : ∀ w ∈ Bundle.ownAtoms0 own ic cls names, w.before args s' = true := vx_own hat' (vx_isRefq hU'.1) (vx_isRefq hN'.1) hU'.2.word hN'.2.word
  have hown' : s'.vm.findClass own = some m.cls := by rw [hvm]; exact hown
  have hins : (Cond.instantiable cls 6).before args s' = true := h _ (by simp [Bundle.ownAtoms0])
  obtain ⟨vm₁, cX, kX, hfX, hkX, -, -, X₁, st1⟩ := Y.newCold hexec (own := own) (C := cls) (index := ik) (n := 6) hown' hk' hins hini'
    (g := F0 m pc ls rest) rfl (by rw [hb]; exact d0) (Nat.le_refl _) (Nat.le_refl _)
  generalize hT1 : (T.setVm vm₁).pushCell { cls := cX, slots := kX.instanceTypes.map defaultValue, vm := .none } = T1 at X₁ st1
  have hcat : (Value.ref T.heap.size).category = 1 := rfl
  have hcellA : T1.heap[T.heap.size]? = some (freshCell cX kX) := by rw [← hT1]; exact State.heap_pushCell_size _ _
  have d3' : decode c.code (pc + 3) = .ok (.dup, 1) := by rw [hb]; exact d3
  obtain ⟨U, hsteps, hrun, hend, hW, hsame, ce, hce, hO⟩ := X₁.ctorThrow0 hexec htr (own := own) (cls := cls) (names := names) (ic := ic) hown' hcls hnames h (fun x hx => nomatch hx) hfX hkX hcellA (by rw [hhp, hT]; exact Nat.le_refl _)
    (g := { method := m, pc := pc + 4, locals := ls, stack := .ref T.heap.size :: .ref T.heap.size :: rest, locked := none }) rfl hsize rfl rfl (rest := rest) rfl
    (by rw [hb]; exact d4) (by rw [hb]; exact d7) hout hRframes (by simp only [List.map_cons, List.sum_cons, hcat]; omega) hlocks
  obtain ⟨f1, f2⟩ := vx_frame hsame
  rw [hhp] at f1 f2
  have hWs : s.WarmedH U.vm := State.WarmedH.trans hW0 hW
  have hcl : s.vm.findClass cls = some ce.cls := by
    have h9 := hO.cls
    rw [hvm] at h9
    exact h9
  have hall : s.sameButNew ({ U with vm := s.vm } : State) locs mc ms := by
    subst hA
    obtain ⟨e1, e2⟩ := hsame
    rw [State.setFrames_setFrames] at e1
    have h2 : (T.setVm s.vm).sameButNew ({ U with vm := s.vm } : State) [] (0 + 1) (0 + 6) := ⟨e1, e2⟩
    have h3 := X.same.trans h2
    rw [List.append_nil] at h3
    exact h3.mono hc hs
  refine ⟨U, ?_, .threw T.heap.size, hrun, hend, Or.inr ⟨T.heap.size, rfl, cls, ce, locs, hx U hWs.alike f1 (fun q hq => f2 q hq (fun z hz => nomatch hz)), hce, hO.vm, hcl, hWs, hall, hf⟩⟩
  refine st1 _ ?_
  show Steps p.tables e below (T1.setTop { method := m, pc := pc + 3, locals := ls, stack := .ref T.heap.size :: rest, locked := none }) _
  jvm_step X₁.here [X₁.here.top, hexec, d3', Value.category]
  exact hsteps
/-- 'throw new E("text")': new; dup; ldc; invokespecial; athrow -/
theorem vx_throwS {cc : ByteArray} {pc : Nat} (hexec : p.tables.exec = Jvm.exec) (hb : c.code = cc) (hl : l.stackTraces = false) {own cls text : String} {names : List String} {ik is ic mc ms sa : Nat} {A : Nat → Prop}
    (hown : s.vm.findClass own = some m.cls) (hcls : Bundle.fit cls = true) (hnames : ∀ n ∈ names, Bundle.fit n = true)
    (hk : (Cond.classLink own ik cls).before args s = true) (hini : (Cond.initialized cls).before args s = true) (hstr : vk_R own is text sa s) (hat : ∀ w ∈ vx_atS own ic cls names, w.before args s = true)
    (hgood : ∀ w ∈ Cond.classLink own ik cls :: Cond.initialized cls :: vx_atS own ic cls names, vx_ot w = true)
    (hU : vx_Zq Bundle.tN "UNASSIGNED_STACK" Bundle.steD A s s.heap) (hN : vx_Zq Bundle.tN "SUPPRESSED_SENTINEL" Bundle.listD A s s.heap) (hS : va_S A s.heap H locs) (hsize : ls.size = c.maxLocals)
    (d0 : decode cc pc = .ok (.new ik, 3)) (d3 : decode cc (pc + 3) = .ok (.dup, 1)) (d4 : decode cc (pc + 4) = .ok (.ldc is, 2)) (d6 : decode cc (pc + 6) = .ok (.invokespecial ic, 3)) (d9 : decode cc (pc + 9) = .ok (.athrow, 1))
    (hout : ∀ x ∈ c.exceptionTable.toList, covers x (pc + 9) = false)
    (hRframes : names.length + 3 < R.frames) (hRlocals : (rest.map fun v => v.category).sum + (13 * (names.length + 1) + 43) ≤ R.locals) (hRcells : cells + 1 ≤ R.cells) (hRslots : slots + 6 ≤ R.slots) (hlocks : meth.locks = false)
    (hx : ∀ t : State, s.vm.Alike t.vm → H.size ≤ t.heap.size → (∀ q : Nat, q < H.size → t.heap[q]? = H[q]?) → XC cls s t)
    (hf : ∀ z ∈ locs, free z.base) (hc : cells + 1 ≤ mc) (hs : slots + 6 ≤ ms) :
    W p l e R s m args below meth c H locs cells slots (vx_MQ below Qc XC args s mc ms free) (F0 m pc ls rest) := by
  intro T hT X
  have htr : e.platform.stackTraces = false := (show e.platform.stackTraces = l.stackTraces by rw [X.admits.platform]).trans hl
  have Y := vx_rebase X (R' := { frames := R.frames, locals := R.locals, cells := 1, slots := 6 }) (Nat.le_refl _) (Nat.le_refl _) hRcells hRslots
  obtain ⟨s', hA⟩ : ∃ z, z = (T.setVm s.vm).setFrames (.invoking m args :: below) := ⟨_, rfl⟩
  rw [← hA] at Y
  have hvm : s'.vm = s.vm := by rw [hA]; rfl
  have hhp : s'.heap = H := by rw [hA]; exact hT
  have hW0 : s.WarmedH s'.vm := by rw [hvm]; exact State.WarmedH.refl s
  have hat' : ∀ w ∈ vx_atS own ic cls names, w.before args s' = true := fun w hw => vx_ot_at hW0 hvm.symm (hgood w (List.mem_cons_of_mem _ (List.mem_cons_of_mem _ hw))) (hat w hw)
  have hk' : (Cond.classLink own ik cls).before args s' = true := vx_ot_at hW0 hvm.symm (hgood _ List.mem_cons_self) hk
  have hini' : (Cond.initialized cls).before args s' = true := vx_ot_at hW0 hvm.symm (hgood _ (List.mem_cons_of_mem _ List.mem_cons_self)) hini
  have hU' : vx_Zq Bundle.tN "UNASSIGNED_STACK" Bundle.steD A s' s'.heap := by rw [hhp]; exact vx_Zq.moved hW0.alike (hU.kept hS.2.1)
  have hN' : vx_Zq Bundle.tN "SUPPRESSED_SENTINEL" Bundle.listD A s' s'.heap := by rw [hhp]; exact vx_Zq.moved hW0.alike (hN.kept hS.2.1)
  have h : ∀ w ∈ Bundle.ownAtoms own ic cls names, w.before args s' = true := vx_own hat' (vx_isRefq hU'.1) (vx_isRefq hN'.1) hU'.2.word hN'.2.word
  have hown' : s'.vm.findClass own = some m.cls := by rw [hvm]; exact hown
  have hins : (Cond.instantiable cls 6).before args s' = true := h _ (by simp [Bundle.ownAtoms])
  obtain ⟨vm₁, cX, kX, hfX, hkX, -, -, X₁, st1⟩ := Y.newCold hexec (own := own) (C := cls) (index := ik) (n := 6) hown' hk' hins hini'
    (g := F0 m pc ls rest) rfl (by rw [hb]; exact d0) (Nat.le_refl _) (Nat.le_refl _)
  generalize hT1 : (T.setVm vm₁).pushCell { cls := cX, slots := kX.instanceTypes.map defaultValue, vm := .none } = T1 at X₁ st1
  have hcat : (Value.ref T.heap.size).category = 1 := rfl
  have hcellA : T1.heap[T.heap.size]? = some (freshCell cX kX) := by rw [← hT1]; exact State.heap_pushCell_size _ _
  have d3' : decode c.code (pc + 3) = .ok (.dup, 1) := by rw [hb]; exact d3
  have d4' : decode c.code (pc + 4) = .ok (.ldc is, 2) := by rw [hb]; exact d4
  have hstr' : vk_R own is text sa s' := vk_R.warm hW0 hstr
  obtain ⟨U, hsteps, hrun, hend, hW, hsame, ce, hce, hO⟩ := X₁.ctorThrowS hexec htr (own := own) (cls := cls) (names := names) (ic := ic) hown' hcls hnames h (fun x hx => nomatch hx) hfX hkX hcellA (by rw [hhp, hT]; exact Nat.le_refl _) (msg := .ref sa) rfl
    (g := { method := m, pc := pc + 6, locals := ls, stack := .ref sa :: .ref T.heap.size :: .ref T.heap.size :: rest, locked := none }) rfl hsize rfl rfl (rest := rest) rfl
    (by rw [hb]; exact d6) (by rw [hb]; exact d9) hout hRframes (by simp only [List.map_cons, List.sum_cons, hcat]; omega) hlocks
  obtain ⟨f1, f2⟩ := vx_frame hsame
  rw [hhp] at f1 f2
  have hWs : s.WarmedH U.vm := State.WarmedH.trans hW0 hW
  have hcl : s.vm.findClass cls = some ce.cls := by
    have h9 := hO.cls
    rw [hvm] at h9
    exact h9
  have hall : s.sameButNew ({ U with vm := s.vm } : State) locs mc ms := by
    subst hA
    obtain ⟨e1, e2⟩ := hsame
    rw [State.setFrames_setFrames] at e1
    have h2 : (T.setVm s.vm).sameButNew ({ U with vm := s.vm } : State) [] (0 + 1) (0 + 6) := ⟨e1, e2⟩
    have h3 := X.same.trans h2
    rw [List.append_nil] at h3
    exact h3.mono hc hs
  refine ⟨U, ?_, .threw T.heap.size, hrun, hend, Or.inr ⟨T.heap.size, rfl, cls, ce, locs, hx U hWs.alike f1 (fun q hq => f2 q hq (fun z hz => nomatch hz)), hce, hO.vm, hcl, hWs, hall, hf⟩⟩
  refine st1 _ ?_
  show Steps p.tables e below (T1.setTop { method := m, pc := pc + 3, locals := ls, stack := .ref T.heap.size :: rest, locked := none }) _
  jvm_step X₁.here [X₁.here.top, hexec, d3', Value.category]
  exact X₁.ldcString hexec (own := own) (text := text) (index := is) (a := sa) hown' hstr'.1 hstr'.2
    (g := { method := m, pc := pc + 4, locals := ls, stack := .ref T.heap.size :: .ref T.heap.size :: rest, locked := none }) rfl d4' _ hsteps
/-- 'throw new E("text")', the text by a wide index -/
theorem vx_throwSW {cc : ByteArray} {pc : Nat} (hexec : p.tables.exec = Jvm.exec) (hb : c.code = cc) (hl : l.stackTraces = false) {own cls text : String} {names : List String} {ik is ic mc ms sa : Nat} {A : Nat → Prop}
    (hown : s.vm.findClass own = some m.cls) (hcls : Bundle.fit cls = true) (hnames : ∀ n ∈ names, Bundle.fit n = true)
    (hk : (Cond.classLink own ik cls).before args s = true) (hini : (Cond.initialized cls).before args s = true) (hstr : vk_R own is text sa s) (hat : ∀ w ∈ vx_atS own ic cls names, w.before args s = true)
    (hgood : ∀ w ∈ Cond.classLink own ik cls :: Cond.initialized cls :: vx_atS own ic cls names, vx_ot w = true)
    (hU : vx_Zq Bundle.tN "UNASSIGNED_STACK" Bundle.steD A s s.heap) (hN : vx_Zq Bundle.tN "SUPPRESSED_SENTINEL" Bundle.listD A s s.heap) (hS : va_S A s.heap H locs) (hsize : ls.size = c.maxLocals)
    (d0 : decode cc pc = .ok (.new ik, 3)) (d3 : decode cc (pc + 3) = .ok (.dup, 1)) (d4 : decode cc (pc + 4) = .ok (.ldc_w is, 3)) (d7 : decode cc (pc + 7) = .ok (.invokespecial ic, 3)) (d10 : decode cc (pc + 10) = .ok (.athrow, 1))
    (hout : ∀ x ∈ c.exceptionTable.toList, covers x (pc + 10) = false)
    (hRframes : names.length + 3 < R.frames) (hRlocals : (rest.map fun v => v.category).sum + (13 * (names.length + 1) + 43) ≤ R.locals) (hRcells : cells + 1 ≤ R.cells) (hRslots : slots + 6 ≤ R.slots) (hlocks : meth.locks = false)
    (hx : ∀ t : State, s.vm.Alike t.vm → H.size ≤ t.heap.size → (∀ q : Nat, q < H.size → t.heap[q]? = H[q]?) → XC cls s t)
    (hf : ∀ z ∈ locs, free z.base) (hc : cells + 1 ≤ mc) (hs : slots + 6 ≤ ms) :
    W p l e R s m args below meth c H locs cells slots (vx_MQ below Qc XC args s mc ms free) (F0 m pc ls rest) := by
  intro T hT X
  have htr : e.platform.stackTraces = false := (show e.platform.stackTraces = l.stackTraces by rw [X.admits.platform]).trans hl
  have Y := vx_rebase X (R' := { frames := R.frames, locals := R.locals, cells := 1, slots := 6 }) (Nat.le_refl _) (Nat.le_refl _) hRcells hRslots
  obtain ⟨s', hA⟩ : ∃ z, z = (T.setVm s.vm).setFrames (.invoking m args :: below) := ⟨_, rfl⟩
  rw [← hA] at Y
  have hvm : s'.vm = s.vm := by rw [hA]; rfl
  have hhp : s'.heap = H := by rw [hA]; exact hT
  have hW0 : s.WarmedH s'.vm := by rw [hvm]; exact State.WarmedH.refl s
  have hat' : ∀ w ∈ vx_atS own ic cls names, w.before args s' = true := fun w hw => vx_ot_at hW0 hvm.symm (hgood w (List.mem_cons_of_mem _ (List.mem_cons_of_mem _ hw))) (hat w hw)
  have hk' : (Cond.classLink own ik cls).before args s' = true := vx_ot_at hW0 hvm.symm (hgood _ List.mem_cons_self) hk
  have hini' : (Cond.initialized cls).before args s' = true := vx_ot_at hW0 hvm.symm (hgood _ (List.mem_cons_of_mem _ List.mem_cons_self)) hini
  have hU' : vx_Zq Bundle.tN "UNASSIGNED_STACK" Bundle.steD A s' s'.heap := by rw [hhp]; exact vx_Zq.moved hW0.alike (hU.kept hS.2.1)
  have hN' : vx_Zq Bundle.tN "SUPPRESSED_SENTINEL" Bundle.listD A s' s'.heap := by rw [hhp]; exact vx_Zq.moved hW0.alike (hN.kept hS.2.1)
  have h : ∀ w ∈ Bundle.ownAtoms own ic cls names, w.before args s' = true := vx_own hat' (vx_isRefq hU'.1) (vx_isRefq hN'.1) hU'.2.word hN'.2.word
  have hown' : s'.vm.findClass own = some m.cls := by rw [hvm]; exact hown
  have hins : (Cond.instantiable cls 6).before args s' = true := h _ (by simp [Bundle.ownAtoms])
  obtain ⟨vm₁, cX, kX, hfX, hkX, -, -, X₁, st1⟩ := Y.newCold hexec (own := own) (C := cls) (index := ik) (n := 6) hown' hk' hins hini'
    (g := F0 m pc ls rest) rfl (by rw [hb]; exact d0) (Nat.le_refl _) (Nat.le_refl _)
  generalize hT1 : (T.setVm vm₁).pushCell { cls := cX, slots := kX.instanceTypes.map defaultValue, vm := .none } = T1 at X₁ st1
  have hcat : (Value.ref T.heap.size).category = 1 := rfl
  have hcellA : T1.heap[T.heap.size]? = some (freshCell cX kX) := by rw [← hT1]; exact State.heap_pushCell_size _ _
  have d3' : decode c.code (pc + 3) = .ok (.dup, 1) := by rw [hb]; exact d3
  have d4' : decode c.code (pc + 4) = .ok (.ldc_w is, 3) := by rw [hb]; exact d4
  have hstr' : vk_R own is text sa s' := vk_R.warm hW0 hstr
  obtain ⟨U, hsteps, hrun, hend, hW, hsame, ce, hce, hO⟩ := X₁.ctorThrowS hexec htr (own := own) (cls := cls) (names := names) (ic := ic) hown' hcls hnames h (fun x hx => nomatch hx) hfX hkX hcellA (by rw [hhp, hT]; exact Nat.le_refl _) (msg := .ref sa) rfl
    (g := { method := m, pc := pc + 7, locals := ls, stack := .ref sa :: .ref T.heap.size :: .ref T.heap.size :: rest, locked := none }) rfl hsize rfl rfl (rest := rest) rfl
    (by rw [hb]; exact d7) (by rw [hb]; exact d10) hout hRframes (by simp only [List.map_cons, List.sum_cons, hcat]; omega) hlocks
  obtain ⟨f1, f2⟩ := vx_frame hsame
  rw [hhp] at f1 f2
  have hWs : s.WarmedH U.vm := State.WarmedH.trans hW0 hW
  have hcl : s.vm.findClass cls = some ce.cls := by
    have h9 := hO.cls
    rw [hvm] at h9
    exact h9
  have hall : s.sameButNew ({ U with vm := s.vm } : State) locs mc ms := by
    subst hA
    obtain ⟨e1, e2⟩ := hsame
    rw [State.setFrames_setFrames] at e1
    have h2 : (T.setVm s.vm).sameButNew ({ U with vm := s.vm } : State) [] (0 + 1) (0 + 6) := ⟨e1, e2⟩
    have h3 := X.same.trans h2
    rw [List.append_nil] at h3
    exact h3.mono hc hs
  refine ⟨U, ?_, .threw T.heap.size, hrun, hend, Or.inr ⟨T.heap.size, rfl, cls, ce, locs, hx U hWs.alike f1 (fun q hq => f2 q hq (fun z hz => nomatch hz)), hce, hO.vm, hcl, hWs, hall, hf⟩⟩
  refine st1 _ ?_
  show Steps p.tables e below (T1.setTop { method := m, pc := pc + 3, locals := ls, stack := .ref T.heap.size :: rest, locked := none }) _
  jvm_step X₁.here [X₁.here.top, hexec, d3', Value.category]
  exact X₁.ldcStringW hexec (own := own) (text := text) (index := is) (a := sa) hown' hstr'.1 hstr'.2
    (g := { method := m, pc := pc + 4, locals := ls, stack := .ref T.heap.size :: .ref T.heap.size :: rest, locked := none }) rfl d4' _ hsteps
end Ends
section Bodies
variable {l : Launch}
theorem vx_ofW {y : MethodName} {ws ws' : List Cond} {rm : Room} {Pc : Array Value → State → Prop} {Qc : Array Value → State → Outcome → State → Prop} {XC : String → State → State → Prop} {mc ms : Nat} {free : Addr → Prop} {cc : ByteArray} {maxL : Nat} {ret : Option FieldType}
    (hy : plainName y.cls = true) (hw : ws = Cond.code y cc maxL ret :: ws')
    (body : ∀ p e s m args below meth c s₁, BodyLoose p l y (headSpec ws rm) cc maxL ret e s m args below meth c s₁ → c.maxLocals = maxL → (∀ x ∈ c.exceptionTable.toList, False) → Pc args s →
      W p l e (headSpec ws rm).room s m args below meth c s.heap [] 0 0 (vx_MQ below Qc XC args s mc ms free) (entryFrame m args maxL)) : vx_Met l y ws rm Pc Qc XC mc ms free := by
  refine MetFree.of_bodyS (code := cc) (maxLocals := maxL) (ret := ret) hy ?_ ?_
  · intro args s m h hn
    obtain ⟨meth, c, h1, h2, h3, h4, h5, h6, -, -⟩ := Cond.code_spec hn (atoms_spec (ws := ws) h _ (by rw [hw]; exact List.mem_cons_self))
    exact ⟨meth, c, h1, h2, h3, h4, h5, h6⟩
  · intro p e s m args below meth c s₁ B hml hP _
    have hh0 : s₁.heap = s.heap := by rw [B.state]; rfl
    have ht : ∀ x ∈ c.exceptionTable.toList, False := by
      obtain ⟨meth9, c9, h1, h2, -, -, -, -, h7, -⟩ := Cond.code_spec B.named (atoms_spec (ws := ws) B.pre _ (by rw [hw]; exact List.mem_cons_self))
      cases Option.some.inj (h1.symm.trans B.method)
      cases Option.some.inj (h2.symm.trans (Stand.of_body B).code)
      intro x hx
      rw [Array.isEmpty_iff.mp h7] at hx
      cases hx
    obtain ⟨t, a1, o, b1, b2, b3⟩ := body p e s m args below meth c s₁ B hml ht hP s₁ hh0 (Stand.of_body B)
    exact ⟨t, o, a1, b1, b2, b3⟩
/-- the table of a body with handlers -/
theorem vx_table {p : Program} {x y : MethodName} {S : Spec} {cc bytes : ByteArray} {maxL maxL' : Nat} {ret ret' : Option FieldType} {e : Env} {s s₁ : State} {m : MethodId} {args : Array Value} {below : List Frame} {meth : Method} {c : Code} {hh : List (Nat × Nat × Nat × Nat)}
    (B : BodyLoose p l y S cc maxL ret e s m args below meth c s₁) (h : (Cond.codeWith y bytes maxL' ret' hh).before args s = true) : c.exceptionTable.toList = tableOf hh := by
  obtain ⟨m9, meth9, c9, hn9, h1, h2, -, -, h6, -⟩ := Cond.codeWith_spec h
  cases Option.some.inj (hn9.symm.trans B.named)
  cases Option.some.inj (h1.symm.trans B.method)
  cases Option.some.inj (h2.symm.trans (Stand.of_body B).code)
  rw [← h6, table_eq]
end Bodies
end VXA
/-! ===== END ===== -/
/-! ===== BEGIN a static call of a method with an exception table ===== -/
section VXS
variable {p : Program} {l : Launch} {e : Env} {R : Room} {s : State} {m : MethodId} {args : Array Value} {below : List Frame} {meth : Method} {c : Code} {T : State} {H : Heap} {locs : List Loc} {cells slots : Nat}
abbrev vx_CSW (R : Room) (s : State) (args : Array Value) (own : String) (index : Nat) (y : MethodName) (bytes : ByteArray) (maxL : Nat) (ret : Option FieldType) (hh : List (Nat × Nat × Nat × Nat)) (ws : List Cond) (rm : Room) (mc ms n : Nat) : Prop :=
  (rm.cells = mc ∧ rm.slots = ms ∧ rm.frames + 1 ≤ R.frames ∧ 8 + (maxL + 11) + rm.locals ≤ R.locals ∧ (∀ w ∈ ws, ∀ (a' : Array Value) (U : State), s.WarmedH U.vm → w.before a' U = true) ∧ Cond.codeWith y bytes maxL ret hh ∈ ws) ∧
  (Cond.codeWith y bytes maxL ret hh).before args s = true ∧ (Cond.initialized y.cls).before args s = true ∧ (y.cls ≠ "java/lang/invoke/MethodHandle" ∧ y.cls ≠ "java/lang/invoke/VarHandle") ∧
  (∀ sig, parseMethodDescriptor y.desc = some sig → n = sig.parameters.length) ∧ (Cond.methodLink own index y).before args s = true ∧ (Cond.static y).before args s = true
theorem vx_cwSW {own : String} {index maxL mc ms : Nat} {y : MethodName} {bytes : ByteArray} {ret : Option FieldType} {hh : List (Nat × Nat × Nat × Nat)} {Ts ws ws' : List Cond} {rm : Room} (n : Nat) (ht : ∀ w ∈ Ts, w.before args s = true) (hT : GoodIn Ts (va_wsS own index y ws)) (hw : ws = Cond.codeWith y bytes maxL ret hh :: ws') (hrc : rm.cells = mc) (hrs : rm.slots = ms)
    (hd : y.cls ≠ "java/lang/invoke/MethodHandle" ∧ y.cls ≠ "java/lang/invoke/VarHandle" ∧ (parseMethodDescriptor y.desc).map (fun d => d.parameters.length) = some n) (hR : rm.frames + 1 ≤ R.frames ∧ 8 + (maxL + 11) + rm.locals ≤ R.locals) :
    vx_CSW R s args own index y bytes maxL ret hh ws rm mc ms n := by
  have ok : ∀ w ∈ va_wsS own index y ws, w.before args s = true := fun w h => ht w (hT w h).1
  have hG : GoodIn Ts ws := fun w h => hT w (by unfold va_wsS; exact List.mem_append_right _ h)
  have hc : Cond.codeWith y bytes maxL ret hh ∈ ws := by rw [hw]; exact List.mem_cons_self
  refine ⟨⟨hrc, hrs, hR.1, hR.2, pay_in ht hG, hc⟩, ht _ (hG _ hc).1, ok _ (by simp [va_wsS]), ⟨hd.1, hd.2.1⟩, fun sig h => ?_, ok _ (by simp [va_wsS]), ok _ (by simp [va_wsS])⟩
  have h2 := hd.2.2
  rw [h] at h2
  exact (Option.some.inj h2).symm
theorem vx_callSW (X : Stand p l e R s m args below meth c T locs cells slots) (hexec : p.tables.exec = Jvm.exec) {own : String} {index : Nat} {y : MethodName} {bytes : ByteArray} {maxL : Nat} {ret : Option FieldType} {hh : List (Nat × Nat × Nat × Nat)}
    (hown : s.vm.findClass own = some m.cls) (hlink : (Cond.methodLink own index y).before args s = true) (hstat : (Cond.static y).before args s = true) (hinit : (Cond.initialized y.cls).before args s = true)
    (hcode : (Cond.codeWith y bytes maxL ret hh).before args s = true) (hy : y.cls ≠ "java/lang/invoke/MethodHandle" ∧ y.cls ≠ "java/lang/invoke/VarHandle")
    {W9 : Nat} {Pre : Pt → Array Value → Prop} {Post : Pt → Array Value → Option Value → Pt → Prop} (hK : Back l R p e below s args y 3 W9 Pre Post)
    {g : JFrame} (hg : g.method = m) (hsize : g.locals.size = c.maxLocals) {argsL rest : List Value} (hlen : ∀ sig, parseMethodDescriptor y.desc = some sig → argsL.length = sig.parameters.length)
    (hstack : g.stack = argsL.reverse ++ rest) (hW : 2 * g.monitorRoom + (rest.map fun v => v.category).sum ≤ W9) (hdg : decode c.code g.pc = .ok (.invokestatic index, 3))
    (hpre : ∀ vm₁, s.WarmedH vm₁ → Pre ⟨T.setVm vm₁, locs, cells, slots⟩ argsL.toArray) :
    ∃ (v : Option Value) (vm₁ : Vm) (B : Pt), s.WarmedH vm₁ ∧ Stand p l e R s m args below meth c B.U B.locs B.cells B.slots ∧ Post ⟨T.setVm vm₁, locs, cells, slots⟩ argsL.toArray v B ∧
      ∀ target, Steps p.tables e below (B.U.setTop { g with pc := g.pc + 3, stack := v.toList ++ rest }) target → Steps p.tables e below (T.setTop g) target := by
  obtain ⟨mk, methM, cM, hnamed, hmethM, -, -, -, -, -, -, hsigM⟩ := Cond.codeWith_spec hcode
  have hstatic : methM.isStatic = true := Cond.static_spec hnamed hmethM hstat
  obtain ⟨kP, hkP, -⟩ := className_of_methodNamed hnamed
  have hinitP : kP.init = .initialized := Cond.initialized_spec (findClass_of_methodNamed hnamed) hkP hinit
  obtain ⟨vm₁, X₁, hstep₁⟩ := X.invokestatic hexec hown hlink hnamed hmethM hstatic hkP hinitP hy (g := g) hg (argsL := argsL) (rest := rest) (hlen _ hsigM) hstack hdg
  obtain ⟨v, B, X', hpost, hsteps⟩ := hK m meth c ⟨T.setVm vm₁, locs, cells, slots⟩ { g with stack := rest } (.invokestatic index) mk argsL.toArray X₁ hg hsize hdg hW (X₁.named hnamed) (hpre vm₁ X₁.warmed)
  exact ⟨v, vm₁, B, X₁.warmed, X', hpost, fun target h => hstep₁ _ fun acts => by rw [doInvoke_state]; exact hsteps.trans h⟩
theorem vx_runSW {y : MethodName} {bytes cc : ByteArray} {maxL nL mc ms n index : Nat} {ret : Option FieldType} {hh : List (Nat × Nat × Nat × Nat)} {ws : List Cond} {rm : Room} {Pc : Array Value → State → Prop} {Qc : Array Value → State → Outcome → State → Prop} {free : Addr → Prop} {Ts : List Cond} {own : String} {As rest : List Value} {g : JFrame}
    (S : CallFix p m c cc nL s args Ts own) (hM : Met l y ws rm Pc Qc mc ms free) (cw : vx_CSW R s args own index y bytes maxL ret hh ws rm mc ms n) (hp : PreS s H Pc As)
    (hg : g.method = m) (hn : As.length = n) (hsize : g.locals.size = nL) (hstack : g.stack = As.reverse ++ rest) (hW : 2 * g.monitorRoom + (rest.map fun v => v.category).sum ≤ 8) (hdg : decode cc g.pc = .ok (.invokestatic index, 3)) (hf : cells + mc ≤ R.cells ∧ slots + ms ≤ R.slots) :
    va_Run p l e R s m args below meth c H locs cells slots mc ms g rest (Qc As.toArray) (free) := by
  obtain ⟨⟨hrc, hrs, hfr, hlo, hws, hcw⟩, hcode, hini, hy, hlen, hl, hstt⟩ := cw
  have hK : Back l R p e below s args y 3 8 (PreOf R mc ms Pc) (PostOf Qc mc ms free) := va_backW (hh := hh) (bytes := bytes) (maxL := maxL) (ret := ret) hM hp.1 hrc hrs hfr hlo hws hcw (fun a' U hW => word_at hW (Or.inl (by first | rfl | simp [Cond.onTables, Cond.keeps, Cond.steady])) hini)
  obtain ⟨hx, hb, hml, ho, -⟩ := S
  intro T hT X
  obtain ⟨v, vm₁, ⟨U', l2, c2, s2⟩, hW₁, X', ⟨g', mk, t, L, e1, e2, hq, h1, hL, h2, h3⟩, st⟩ := vx_callSW X hx (hh := hh) (bytes := bytes) (maxL := maxL) (ret := ret) ho hl hstt hini hcode hy hK hg (hsize.trans hml.symm) (argsL := As) (rest := rest) (fun sig h => hn.trans (hlen sig h)) hstack hW (by rw [hb]; exact hdg)
    (fun vm₁ hW₁ => ⟨hf.1, hf.2, hp.2 (T.setVm vm₁) hT hW₁⟩)
  dsimp only [Pt.U, Pt.locs, Pt.cells, Pt.slots] at X' e1 e2 h1 h2 h3 st
  subst h1; subst h2; subst h3
  exact ⟨v, (T.setVm vm₁).calling g' mk As.toArray, t, U', L, hT, X', hL, e1, e2, hq, st⟩
/-- not caught here, past rows that name other classes: it goes on to the caller -/
theorem vx_outP {p : Program} {l : Launch} {e : Env} {R : Room} {s : State} {m : MethodId} {args : Array Value} {below : List Frame} {meth : Method} {c : Code} {H : Heap} {locs : List Loc} {cells slots : Nat} {free : Addr → Prop} {ls : Array Slot} {rest : List Value} {Qc : Array Value → State → Outcome → State → Prop} {XC : String → State → State → Prop}
    {pc : Nat} {own E : String} {ce : Cell} {q : Addr} {mc ms : Nat} (hown : s.vm.findClass own = some m.cls) (hlocks : meth.locks = false)
    (hpass : ∀ z ∈ c.exceptionTable.toList, covers z pc = false ∨ (z.catchType ≠ 0 ∧ ∃ nm : String, (Cond.classLink own z.catchType nm).before args s = true ∧ va_Nc E nm s)) (hcell : H[q]? = some ce) (hv : ce.vm = .none) (hcl : s.vm.findClass E = some ce.cls)
    (hx : ∀ t : State, t.heap = H → s.vm.Alike t.vm → XC E s t) (hf : ∀ z ∈ locs, free z.base) (hc : cells ≤ mc) (hs : slots ≤ ms) :
    vx_W p l e R s m args below meth c H locs cells slots (vx_MQ below Qc XC args s mc ms free) (F0 m pc ls rest) q := by
  intro T hT X
  have hpl : e.platform.magicAccessors = ({} : Platform).magicAccessors := by rw [X.admits.platform]
  obtain ⟨vm', hW', X', st⟩ := X.outThrough hlocks q (g := F0 m pc ls rest) rfl rfl rfl (cell := ce) (by rw [hT]; exact hcell) (by rw [hv]; rfl)
    (by obtain ⟨k9, h9, -⟩ := Vm.findClass_spec hcl; exact ⟨k9, h9⟩) (fun z hz => by
      rcases hpass z hz with h | ⟨hz0, nm, hl1, hn1⟩
      · exact Or.inl h
      · obtain ⟨c6, hc6, hcl6⟩ := Cond.classLink_spec hown hl1 e.platform hpl
        obtain ⟨a8, b8, h1, h2, h3⟩ := hn1
        cases Option.some.inj (h1.symm.trans hcl)
        cases Option.some.inj (h2.symm.trans hc6)
        exact Or.inr ⟨hz0, _, hcl6, h3⟩)
  obtain ⟨g₀, hfr⟩ := X'.frames_eq
  have hcell9 : ((T.setVm vm').setFrames (.throwing q :: below)).heap[q]? = some ce := by
    show T.heap[q]? = some ce
    rw [hT]; exact hcell
  have hend : Ended ((T.setVm vm').setFrames (.throwing q :: below)) below (.threw q) := State.frames_setFrames _ (State.cur_lt_of_frames hfr)
  refine ⟨(T.setVm vm').setFrames (.throwing q :: below), ?_, .threw q, X'.here.running, hend, Or.inr ⟨q, rfl, E, ce, locs, hx _ hT (X'.ends _).1.alike, hcell9, hv, hcl, (X'.ends _).1, (X'.ends _).2.mono hc hs, hf⟩⟩
  rw [X.pushThrowing_eq]
  exact st
/-- a thing of a world lies in the heap -/
theorem vx_lt {D : va_G} {cl : List vw_C} {ws : va_W} {H1 : Heap} (h : va_P D cl ws H1) {k : Nat} {q : Nat × va_E} (hk : ws[k]? = some q) : q.1 < H1.size := (h k q hk).lt
end VXS
/-! ===== END ===== -/
/-! ===== BEGIN methods with a table of their own: called by a name, returning or throwing ===== -/
section VXH
/-! vx_backW, vx_callVX, vx_callSX, vx_callVW, vx_runVW, vx_runVX, vx_runSX, vx_ofWH follow the same proofs as their sisters above (Free/Laws.lean, Shelf42/LK1.lean); vx_outP calls Shelf42/NT130.lean (outThrough). -/
section
variable {l : Launch} {R : Room} {p : Program} {e : Env} {below : List Frame} {s : State} {sargs : Array Value} {y : MethodName} {len W9 : Nat}
theorem vx_backW {ws : List Cond} {rm : Room} {Pc : Array Value → State → Prop} {Qc : Array Value → State → Outcome → State → Prop} {XC : String → State → State → Prop} {mc ms : Nat} {free : Addr → Prop} {bytes : ByteArray} {maxL : Nat} {ret : Option FieldType} {hh : List (Nat × Nat × Nat × Nat)}
    (hM : vx_Met l y ws rm Pc Qc XC mc ms free) (hblind : FrameBlind Pc) (hrc : rm.cells = mc) (hrs : rm.slots = ms)
    (hframes : rm.frames + 1 ≤ R.frames) (hlocals : W9 + (maxL + 11) + rm.locals ≤ R.locals)
    (hws : ∀ w ∈ ws, ∀ a' U, s.WarmedH U.vm → w.before a' U = true) (hcode : Cond.codeWith y bytes maxL ret hh ∈ ws) (hinit : ∀ a' U, s.WarmedH U.vm → (Cond.initialized y.cls).before a' U = true) :
    vx_Back l R p e below s sargs y len W9 (PreOf R mc ms Pc) (PostOf Qc mc ms free) (vx_Post XC mc ms free) := by
  intro m meth c A g ig mk a X hg hsize hdg hW hn hp
  have h1 : (headSpec ws rm).pre.before a A.U = true := atoms_intro fun w hw => hws w hw _ _ X.warmed
  have h2 : (Cond.codeWith y bytes maxL ret hh).before a A.U = true := hws _ hcode _ _ X.warmed
  have h3 : (Cond.initialized y.cls).before a A.U = true := hinit _ _ X.warmed
  have h4 : A.cells + (headSpec ws rm).room.cells ≤ R.cells := by rw [show (headSpec ws rm).room.cells = mc from hrc]; exact hp.1
  have h5 : A.slots + (headSpec ws rm).room.slots ≤ R.slots := by rw [show (headSpec ws rm).room.slots = ms from hrs]; exact hp.2.1
  have hPc : Pc a (A.U.calling g mk a) := hblind _ _ _ _ hp.2.2
  obtain ⟨U, Ls, c0, s0⟩ := A
  dsimp only [Pt.U, Pt.locs, Pt.cells, Pt.slots] at h1 h2 h3 h4 h5 X hn hPc ⊢
  obtain ⟨m9, methY, cY, hn9, hmY, hcY, -, hlY, -⟩ := Cond.codeWith_spec h2
  cases Option.some.inj (hn9.symm.trans hn)
  obtain ⟨kY, hkY, -⟩ := className_of_methodNamed hn
  have hinitY : kY.init = .initialized := Cond.initialized_spec (findClass_of_methodNamed hn) hkY h3
  have h : At U g.method c below := by rw [hg]; exact X.here
  have hlocals9 : W9 + (maxL + 11) + (headSpec ws rm).room.locals ≤ R.locals := hlocals
  have happ : (headSpec ws rm).appliesLoose y e.platform (U.calling g mk a) = true :=
    Spec.appliesLoose_calling (g := g) h hdg hn hkY hinitY
      (X.room_calling (g := g) (R' := (headSpec ws rm).room) hsize hmY hcY hframes (by rw [hlY]; omega) h4 h5) h1
  obtain ⟨mid, hmid⟩ := h.above
  have hfr : (U.setTop g).frames = (.java g :: mid) ++ below := by rw [State.frames_setTop' g h.top, hmid]; rfl
  obtain ⟨o, s₂, hsteps, -, hend, hq⟩ := Steps.callFree hM p X.admits X.cas X.clock (acts := []) hfr happ hPc trivial
  have hq' : vx_Q Qc XC mc ms free a (U.calling g mk a) o s₂ := hq
  rw [State.frames_setTop' g h.top] at hend
  obtain ⟨g₀, hg0⟩ := Option.isSome_iff_exists.mp h.top
  obtain ⟨r, hr⟩ := State.topJava?_eq_some.mp hg0
  have hr' : (({ U with heap := s₂.heap, slotsUsed := s₂.slotsUsed } : State).setVm s₂.vm).frames = .java g₀ :: r := hr
  rcases hq' with ⟨hqc, L, hfe, hL⟩ | ⟨q, rfl, E, ce, L, hx, hce, hcv, hcl, hW₂, hsm, hL⟩
  · obtain ⟨⟨v, rfl⟩, hW₂, e2, q2, q3, q4, q5, q6⟩ := id hfe
    have e3 : s₂ = ({ (U.calling g mk a).setFrames s₂.frames with heap := s₂.heap, slotsUsed := s₂.slotsUsed } : State).setVm s₂.vm := by
      have : s₂ = ({ s₂ with vm := (U.calling g mk a).vm } : State).setVm s₂.vm := rfl
      rw [e2] at this
      exact this
    obtain ⟨c₂, i₂, len₂, hc₂, hd₂, hf₂⟩ := hend
    have hW' : U.WarmedH s₂.vm := hW₂
    have hcc : c₂ = c := by
      have h1 : s₂.code? g.method = U.code? g.method := by
        rw [State.code?_eq, State.code?_eq, hW'.alike.method?]
      exact Option.some.inj (hc₂.symm.trans (h1.trans h.code))
    subst hcc
    have hlen : len₂ = len := by rw [hdg] at hd₂; cases hd₂; rfl
    subst hlen
    have hs₂ : s₂ = (({ U with heap := s₂.heap, slotsUsed := s₂.slotsUsed } : State).setVm s₂.vm).setTop { g with pc := g.pc + len₂, stack := v.toList ++ g.stack } := by
      refine e3.trans ?_
      rw [hf₂, State.calling_eq h.top, State.setFrames_setFrames, State.setTop_of_frames _ hr', hr]
      rfl
    have hsame : U.sameButNew ({ U with heap := s₂.heap, slotsUsed := s₂.slotsUsed } : State) L mc ms := by
      refine ⟨?_, q2, q3, q4, q5, q6⟩
      obtain ⟨t, ht, -⟩ := State.frames_cons hr
      show ({ U with heap := s₂.heap, slotsUsed := s₂.slotsUsed } : State) = { U.setFrames U.frames with heap := s₂.heap, slotsUsed := s₂.slotsUsed }
      rw [State.setFrames_self ht]
    subst hg
    refine Or.inl ⟨v, ⟨(({ U with heap := s₂.heap, slotsUsed := s₂.slotsUsed } : State).setVm s₂.vm), Ls ++ L, c0 + mc, s0 + ms⟩,
      ⟨X.admits, X.cas, X.clock, X.frames, X.room, X.hears, X.method, X.code, (X.here.setHeapUsed s₂.heap s₂.slotsUsed).setVm hW'.alike, X.tail, State.WarmedH.trans X.warmed hW', X.limits, X.bytes, X.same.trans (hsame.setVm s.vm)⟩,
      ⟨g, mk, s₂, L, rfl, rfl, hqc, rfl, hL, rfl, rfl⟩, ?_⟩
    show Steps p.tables e below _ ((({ U with heap := s₂.heap, slotsUsed := s₂.slotsUsed } : State).setVm s₂.vm).setTop { g with pc := g.pc + len₂, stack := v.toList ++ g.stack })
    rw [← hs₂]
    exact hsteps
  · obtain ⟨e2, q2, q3, q4, q5, q6⟩ := id hsm
    have e3 : s₂ = ({ (U.calling g mk a).setFrames s₂.frames with heap := s₂.heap, slotsUsed := s₂.slotsUsed } : State).setVm s₂.vm := by
      have : s₂ = ({ s₂ with vm := (U.calling g mk a).vm } : State).setVm s₂.vm := rfl
      rw [e2] at this
      exact this
    have hf₂ : s₂.frames = .throwing q :: .java g :: U.frames.tail := hend
    have hW' : U.WarmedH s₂.vm := hW₂
    have hs₂ : s₂ = ((({ U with heap := s₂.heap, slotsUsed := s₂.slotsUsed } : State).setVm s₂.vm).setTop g).pushFrame (.throwing q) := by
      refine e3.trans ?_
      rw [hf₂, State.calling_eq h.top, State.setFrames_setFrames, State.pushFrame, State.frames_setTop _ hr', State.setTop_of_frames _ hr', State.setFrames_setFrames, hr]
      rfl
    have hsame : U.sameButNew ({ U with heap := s₂.heap, slotsUsed := s₂.slotsUsed } : State) L mc ms := by
      refine ⟨?_, q2, q3, q4, q5, q6⟩
      obtain ⟨t, ht, -⟩ := State.frames_cons hr
      show ({ U with heap := s₂.heap, slotsUsed := s₂.slotsUsed } : State) = { U.setFrames U.frames with heap := s₂.heap, slotsUsed := s₂.slotsUsed }
      rw [State.setFrames_self ht]
    subst hg
    refine Or.inr ⟨q, ⟨(({ U with heap := s₂.heap, slotsUsed := s₂.slotsUsed } : State).setVm s₂.vm), Ls ++ L, c0 + mc, s0 + ms⟩,
      ⟨X.admits, X.cas, X.clock, X.frames, X.room, X.hears, X.method, X.code, (X.here.setHeapUsed s₂.heap s₂.slotsUsed).setVm hW'.alike, X.tail, State.WarmedH.trans X.warmed hW', X.limits, X.bytes, X.same.trans (hsame.setVm s.vm)⟩,
      ⟨g, mk, s₂, L, E, ce, rfl, rfl, hx, hce, hcv, hcl, rfl, hL, rfl, rfl⟩, ?_⟩
    show Steps p.tables e below _ (((({ U with heap := s₂.heap, slotsUsed := s₂.slotsUsed } : State).setVm s₂.vm).setTop g).pushFrame (.throwing q))
    rw [← hs₂]
    exact hsteps
end
variable {p : Program} {l : Launch} {e : Env} {R : Room} {s : State} {m : MethodId} {args : Array Value} {below : List Frame} {meth : Method} {c : Code} {T : State} {H : Heap} {locs : List Loc} {cells slots : Nat}
theorem vx_callVX (X : Stand p l e R s m args below meth c T locs cells slots) (hexec : p.tables.exec = Jvm.exec) {own C : String} {index : Nat} {y : MethodName} {bytes : ByteArray} {maxL : Nat} {ret : Option FieldType} {hh : List (Nat × Nat × Nat × Nat)}
    (hown : s.vm.findClass own = some m.cls) (hlink : (Cond.methodLink own index y).before args s = true) (hinst : (Cond.instanceMethod y).before args s = true) (hsel : (Cond.selects C y y).before args s = true)
    (hcode : (Cond.codeWith y bytes maxL ret hh).before args s = true) (hy : y.cls ≠ "java/lang/invoke/MethodHandle" ∧ y.cls ≠ "java/lang/invoke/VarHandle")
    {W9 : Nat} {Pre : Pt → Array Value → Prop} {Post : Pt → Array Value → Option Value → Pt → Prop} {PostX : Pt → Array Value → Addr → Pt → Prop} (hK : vx_Back l R p e below s args y 3 W9 Pre Post PostX)
    {b : Addr} {cellB : Cell} (hcell : T.heap[b]? = some cellB) (hobj : cellB.vm.isStatics = false) (hcls : s.vm.findClass C = some cellB.cls)
    {g : JFrame} (hg : g.method = m) (hsize : g.locals.size = c.maxLocals) {argsL rest : List Value} (hlen : ∀ sig, parseMethodDescriptor y.desc = some sig → argsL.length = sig.parameters.length)
    (hstack : g.stack = argsL.reverse ++ .ref b :: rest) (hW : 2 * g.monitorRoom + (rest.map fun v => v.category).sum ≤ W9) (hdg : decode c.code g.pc = .ok (.invokevirtual index, 3))
    (hpre : ∀ vm₁, s.WarmedH vm₁ → Pre ⟨T.setVm vm₁, locs, cells, slots⟩ (Value.ref b :: argsL).toArray) :
    (∃ (v : Option Value) (vm₁ : Vm) (B : Pt), s.WarmedH vm₁ ∧ Stand p l e R s m args below meth c B.U B.locs B.cells B.slots ∧ Post ⟨T.setVm vm₁, locs, cells, slots⟩ (Value.ref b :: argsL).toArray v B ∧
      ∀ target, Steps p.tables e below (B.U.setTop { g with pc := g.pc + 3, stack := v.toList ++ rest }) target → Steps p.tables e below (T.setTop g) target) ∨
    (∃ (q : Addr) (vm₁ : Vm) (B : Pt), s.WarmedH vm₁ ∧ Stand p l e R s m args below meth c B.U B.locs B.cells B.slots ∧ PostX ⟨T.setVm vm₁, locs, cells, slots⟩ (Value.ref b :: argsL).toArray q B ∧
      Steps p.tables e below (T.setTop g) ((B.U.setTop { g with stack := rest }).pushFrame (.throwing q))) := by
  obtain ⟨mk, methM, hnamed, hmethM, hstM, habM⟩ := Cond.instanceMethod_spec hinst
  obtain ⟨m8, methM', cM, hn8, hmethM', -, -, -, -, -, -, hsigM⟩ := Cond.codeWith_spec hcode
  cases Option.some.inj (hn8.symm.trans hnamed)
  cases hmethM.symm.trans hmethM'
  obtain ⟨c2, r2, m2, q1, q2, q3, q4, kP, hkP, hkPi⟩ := Cond.selects_spec hsel
  cases hcls.symm.trans q1
  cases (State.methodFound?_of_named hnamed hy).symm.trans q2
  cases hnamed.symm.trans q3
  have hselP : selectMethod e.platform s.vm cellB.cls mk = .method mk := by rw [Launch.admits_selectMethod X.admits]; exact q4
  obtain ⟨vm₁, X₁, hstep₁⟩ := X.invokevirtual hexec hown hlink hnamed hmethM hstM hkP hkPi hy (a := b) (cell := cellB) hcell
    (fun z h => by rw [h] at hobj; cases hobj) hselP hmethM habM hkP hkPi (g := g) hg (argsL := argsL) (rest := rest) (hlen _ hsigM) hstack hdg
  rcases hK m meth c ⟨T.setVm vm₁, locs, cells, slots⟩ { g with stack := rest } (.invokevirtual index) mk (Value.ref b :: argsL).toArray X₁ hg hsize hdg hW (X₁.named hnamed) (hpre vm₁ X₁.warmed) with ⟨v, B, X', hpost, hsteps⟩ | ⟨q, B, X', hpost, hsteps⟩
  · exact Or.inl ⟨v, vm₁, B, X₁.warmed, X', hpost, fun target h => hstep₁ _ fun acts => by rw [doInvoke_state]; exact hsteps.trans h⟩
  · exact Or.inr ⟨q, vm₁, B, X₁.warmed, X', hpost, hstep₁ _ fun acts => by rw [doInvoke_state]; exact hsteps⟩
theorem vx_callSX (X : Stand p l e R s m args below meth c T locs cells slots) (hexec : p.tables.exec = Jvm.exec) {own : String} {index : Nat} {y : MethodName} {bytes : ByteArray} {maxL : Nat} {ret : Option FieldType} {hh : List (Nat × Nat × Nat × Nat)}
    (hown : s.vm.findClass own = some m.cls) (hlink : (Cond.methodLink own index y).before args s = true) (hstat : (Cond.static y).before args s = true) (hinit : (Cond.initialized y.cls).before args s = true)
    (hcode : (Cond.codeWith y bytes maxL ret hh).before args s = true) (hy : y.cls ≠ "java/lang/invoke/MethodHandle" ∧ y.cls ≠ "java/lang/invoke/VarHandle")
    {W9 : Nat} {Pre : Pt → Array Value → Prop} {Post : Pt → Array Value → Option Value → Pt → Prop} {PostX : Pt → Array Value → Addr → Pt → Prop} (hK : vx_Back l R p e below s args y 3 W9 Pre Post PostX)
    {g : JFrame} (hg : g.method = m) (hsize : g.locals.size = c.maxLocals) {argsL rest : List Value} (hlen : ∀ sig, parseMethodDescriptor y.desc = some sig → argsL.length = sig.parameters.length)
    (hstack : g.stack = argsL.reverse ++ rest) (hW : 2 * g.monitorRoom + (rest.map fun v => v.category).sum ≤ W9) (hdg : decode c.code g.pc = .ok (.invokestatic index, 3))
    (hpre : ∀ vm₁, s.WarmedH vm₁ → Pre ⟨T.setVm vm₁, locs, cells, slots⟩ argsL.toArray) :
    (∃ (v : Option Value) (vm₁ : Vm) (B : Pt), s.WarmedH vm₁ ∧ Stand p l e R s m args below meth c B.U B.locs B.cells B.slots ∧ Post ⟨T.setVm vm₁, locs, cells, slots⟩ argsL.toArray v B ∧
      ∀ target, Steps p.tables e below (B.U.setTop { g with pc := g.pc + 3, stack := v.toList ++ rest }) target → Steps p.tables e below (T.setTop g) target) ∨
    (∃ (q : Addr) (vm₁ : Vm) (B : Pt), s.WarmedH vm₁ ∧ Stand p l e R s m args below meth c B.U B.locs B.cells B.slots ∧ PostX ⟨T.setVm vm₁, locs, cells, slots⟩ argsL.toArray q B ∧
      Steps p.tables e below (T.setTop g) ((B.U.setTop { g with stack := rest }).pushFrame (.throwing q))) := by
  obtain ⟨mk, methM, cM, hnamed, hmethM, -, -, -, -, -, -, hsigM⟩ := Cond.codeWith_spec hcode
  have hstatic : methM.isStatic = true := Cond.static_spec hnamed hmethM hstat
  obtain ⟨kP, hkP, -⟩ := className_of_methodNamed hnamed
  have hinitP : kP.init = .initialized := Cond.initialized_spec (findClass_of_methodNamed hnamed) hkP hinit
  obtain ⟨vm₁, X₁, hstep₁⟩ := X.invokestatic hexec hown hlink hnamed hmethM hstatic hkP hinitP hy (g := g) hg (argsL := argsL) (rest := rest) (hlen _ hsigM) hstack hdg
  rcases hK m meth c ⟨T.setVm vm₁, locs, cells, slots⟩ { g with stack := rest } (.invokestatic index) mk argsL.toArray X₁ hg hsize hdg hW (X₁.named hnamed) (hpre vm₁ X₁.warmed) with ⟨v, B, X', hpost, hsteps⟩ | ⟨q, B, X', hpost, hsteps⟩
  · exact Or.inl ⟨v, vm₁, B, X₁.warmed, X', hpost, fun target h => hstep₁ _ fun acts => by rw [doInvoke_state]; exact hsteps.trans h⟩
  · exact Or.inr ⟨q, vm₁, B, X₁.warmed, X', hpost, hstep₁ _ fun acts => by rw [doInvoke_state]; exact hsteps⟩
theorem vx_callVW (X : Stand p l e R s m args below meth c T locs cells slots) (hexec : p.tables.exec = Jvm.exec) {own C : String} {index : Nat} {y : MethodName} {bytes : ByteArray} {maxL : Nat} {ret : Option FieldType} {hh : List (Nat × Nat × Nat × Nat)}
    (hown : s.vm.findClass own = some m.cls) (hlink : (Cond.methodLink own index y).before args s = true) (hinst : (Cond.instanceMethod y).before args s = true) (hsel : (Cond.selects C y y).before args s = true)
    (hcode : (Cond.codeWith y bytes maxL ret hh).before args s = true) (hy : y.cls ≠ "java/lang/invoke/MethodHandle" ∧ y.cls ≠ "java/lang/invoke/VarHandle")
    {W9 : Nat} {Pre : Pt → Array Value → Prop} {Post : Pt → Array Value → Option Value → Pt → Prop} (hK : Back l R p e below s args y 3 W9 Pre Post)
    {b : Addr} {cellB : Cell} (hcell : T.heap[b]? = some cellB) (hobj : cellB.vm.isStatics = false) (hcls : s.vm.findClass C = some cellB.cls)
    {g : JFrame} (hg : g.method = m) (hsize : g.locals.size = c.maxLocals) {argsL rest : List Value} (hlen : ∀ sig, parseMethodDescriptor y.desc = some sig → argsL.length = sig.parameters.length)
    (hstack : g.stack = argsL.reverse ++ .ref b :: rest) (hW : 2 * g.monitorRoom + (rest.map fun v => v.category).sum ≤ W9) (hdg : decode c.code g.pc = .ok (.invokevirtual index, 3))
    (hpre : ∀ vm₁, s.WarmedH vm₁ → Pre ⟨T.setVm vm₁, locs, cells, slots⟩ (Value.ref b :: argsL).toArray) :
    ∃ (v : Option Value) (vm₁ : Vm) (B : Pt), s.WarmedH vm₁ ∧ Stand p l e R s m args below meth c B.U B.locs B.cells B.slots ∧ Post ⟨T.setVm vm₁, locs, cells, slots⟩ (Value.ref b :: argsL).toArray v B ∧
      ∀ target, Steps p.tables e below (B.U.setTop { g with pc := g.pc + 3, stack := v.toList ++ rest }) target → Steps p.tables e below (T.setTop g) target := by
  obtain ⟨mk, methM, hnamed, hmethM, hstM, habM⟩ := Cond.instanceMethod_spec hinst
  obtain ⟨m8, methM', cM, hn8, hmethM', -, -, -, -, -, -, hsigM⟩ := Cond.codeWith_spec hcode
  cases Option.some.inj (hn8.symm.trans hnamed)
  cases hmethM.symm.trans hmethM'
  obtain ⟨c2, r2, m2, q1, q2, q3, q4, kP, hkP, hkPi⟩ := Cond.selects_spec hsel
  cases hcls.symm.trans q1
  cases (State.methodFound?_of_named hnamed hy).symm.trans q2
  cases hnamed.symm.trans q3
  have hselP : selectMethod e.platform s.vm cellB.cls mk = .method mk := by rw [Launch.admits_selectMethod X.admits]; exact q4
  obtain ⟨vm₁, X₁, hstep₁⟩ := X.invokevirtual hexec hown hlink hnamed hmethM hstM hkP hkPi hy (a := b) (cell := cellB) hcell
    (fun z h => by rw [h] at hobj; cases hobj) hselP hmethM habM hkP hkPi (g := g) hg (argsL := argsL) (rest := rest) (hlen _ hsigM) hstack hdg
  obtain ⟨v, B, X', hpost, hsteps⟩ := hK m meth c ⟨T.setVm vm₁, locs, cells, slots⟩ { g with stack := rest } (.invokevirtual index) mk (Value.ref b :: argsL).toArray X₁ hg hsize hdg hW (X₁.named hnamed) (hpre vm₁ X₁.warmed)
  exact ⟨v, vm₁, B, X₁.warmed, X', hpost, fun target h => hstep₁ _ fun acts => by rw [doInvoke_state]; exact hsteps.trans h⟩
abbrev vx_CVW (R : Room) (s : State) (args : Array Value) (own C : String) (index : Nat) (y : MethodName) (bytes : ByteArray) (maxL : Nat) (ret : Option FieldType) (hh : List (Nat × Nat × Nat × Nat)) (ws : List Cond) (rm : Room) (mc ms n : Nat) : Prop :=
  (rm.cells = mc ∧ rm.slots = ms ∧ rm.frames + 1 ≤ R.frames ∧ 8 + (maxL + 11) + rm.locals ≤ R.locals ∧ (∀ w ∈ ws, ∀ (a' : Array Value) (U : State), s.WarmedH U.vm → w.before a' U = true) ∧ Cond.codeWith y bytes maxL ret hh ∈ ws) ∧
  (Cond.codeWith y bytes maxL ret hh).before args s = true ∧ (Cond.initialized y.cls).before args s = true ∧ (y.cls ≠ "java/lang/invoke/MethodHandle" ∧ y.cls ≠ "java/lang/invoke/VarHandle") ∧
  (∀ sig, parseMethodDescriptor y.desc = some sig → n = sig.parameters.length) ∧ (Cond.methodLink own index y).before args s = true ∧ (Cond.instanceMethod y).before args s = true ∧ (Cond.selects C y y).before args s = true
theorem vx_cwVW {own C : String} {index maxL mc ms : Nat} {y : MethodName} {bytes : ByteArray} {ret : Option FieldType} {hh : List (Nat × Nat × Nat × Nat)} {Ts ws ws' : List Cond} {rm : Room} (n : Nat) (ht : ∀ w ∈ Ts, w.before args s = true) (hT : GoodIn Ts (wsV own index C y ws)) (hw : ws = Cond.codeWith y bytes maxL ret hh :: ws') (hrc : rm.cells = mc) (hrs : rm.slots = ms)
    (hd : y.cls = C ∧ y.cls ≠ "java/lang/invoke/MethodHandle" ∧ y.cls ≠ "java/lang/invoke/VarHandle" ∧ (parseMethodDescriptor y.desc).map (fun d => d.parameters.length) = some n) (hR : rm.frames + 1 ≤ R.frames ∧ 8 + (maxL + 11) + rm.locals ≤ R.locals) :
    vx_CVW R s args own C index y bytes maxL ret hh ws rm mc ms n := by
  obtain ⟨hC, hd⟩ := hd
  subst hC
  have ok : ∀ w ∈ wsV own index y.cls y ws, w.before args s = true := fun w h => ht w (hT w h).1
  have hG : GoodIn Ts ws := fun w h => hT w (by unfold wsV; exact List.mem_append_right _ h)
  have hc : Cond.codeWith y bytes maxL ret hh ∈ ws := by rw [hw]; exact List.mem_cons_self
  refine ⟨⟨hrc, hrs, hR.1, hR.2, pay_in ht hG, hc⟩, ht _ (hG _ hc).1, ok _ (by simp [wsV]), ⟨hd.1, hd.2.1⟩, fun sig h => ?_, ok _ (by simp [wsV]), ok _ (by simp [wsV]), ok _ (by simp [wsV])⟩
  have h2 := hd.2.2
  rw [h] at h2
  exact (Option.some.inj h2).symm
theorem vx_runVW {y : MethodName} {bytes cc : ByteArray} {maxL nL mc ms n index : Nat} {ret : Option FieldType} {hh : List (Nat × Nat × Nat × Nat)} {ws : List Cond} {rm : Room} {Pc : Array Value → State → Prop} {Qc : Array Value → State → Outcome → State → Prop} {free : Addr → Prop} {Ts : List Cond} {own C : String} {b : Addr} {As rest : List Value} {g : JFrame}
    (S : CallFix p m c cc nL s args Ts own) (hM : Met l y ws rm Pc Qc mc ms free) (cw : vx_CVW R s args own C index y bytes maxL ret hh ws rm mc ms n) (hp : PreV s H C b Pc As)
    (hg : g.method = m) (hn : As.length = n) (hsize : g.locals.size = nL) (hstack : g.stack = As.reverse ++ .ref b :: rest) (hW : 2 * g.monitorRoom + (rest.map fun v => v.category).sum ≤ 8) (hdg : decode cc g.pc = .ok (.invokevirtual index, 3)) (hf : cells + mc ≤ R.cells ∧ slots + ms ≤ R.slots) :
    va_Run p l e R s m args below meth c H locs cells slots mc ms g rest (Qc (Value.ref b :: As).toArray) free := by
  obtain ⟨⟨hrc, hrs, hfr, hlo, hws, hcw⟩, hcode, hini, hy, hlen, hl, hin, hse⟩ := cw
  have hK : Back l R p e below s args y 3 8 (PreOf R mc ms Pc) (PostOf Qc mc ms free) := va_backW (hh := hh) (bytes := bytes) (maxL := maxL) (ret := ret) hM hp.1 hrc hrs hfr hlo hws hcw (fun a' U hW => word_at hW (Or.inl (by first | rfl | simp [Cond.onTables, Cond.keeps, Cond.steady])) hini)
  obtain ⟨hx, hb, hml, ho, -⟩ := S
  obtain ⟨-, ⟨cellB, hcB, hoB, hclB⟩, hPc⟩ := hp
  intro T hT X
  obtain ⟨v, vm₁, ⟨U', l2, c2, s2⟩, hW₁, X', ⟨g', mk, t, L, e1, e2, hq, h1, hL, h2, h3⟩, st⟩ := vx_callVW X hx (C := C) (hh := hh) (bytes := bytes) (maxL := maxL) (ret := ret) ho hl hin hse hcode hy hK (by rw [hT]; exact hcB) hoB hclB hg (hsize.trans hml.symm) (argsL := As) (rest := rest) (fun sig h => hn.trans (hlen sig h)) hstack hW (by rw [hb]; exact hdg)
    (fun vm₁ hW₁ => ⟨hf.1, hf.2, hPc (T.setVm vm₁) hT hW₁⟩)
  dsimp only [Pt.U, Pt.locs, Pt.cells, Pt.slots] at X' e1 e2 h1 h2 h3 st
  subst h1; subst h2; subst h3
  exact ⟨v, (T.setVm vm₁).calling g' mk (Value.ref b :: As).toArray, t, U', L, hT, X', hL, e1, e2, hq, st⟩
section
variable {y : MethodName} {bytes cc : ByteArray} {maxL nL mc ms n index : Nat} {ret : Option FieldType} {ws : List Cond} {rm : Room} {Pc : Array Value → State → Prop} {Qc : Array Value → State → Outcome → State → Prop} {XC : String → State → State → Prop} {free : Addr → Prop} {Ts : List Cond} {own C : String} {b : Addr} {As rest : List Value} {g : JFrame}
theorem vx_runVX {hh : List (Nat × Nat × Nat × Nat)} (S : CallFix p m c cc nL s args Ts own) (hM : vx_Met l y ws rm Pc Qc XC mc ms free) (cw : vx_CVW R s args own C index y bytes maxL ret hh ws rm mc ms n) (hp : PreV s H C b Pc As)
    (hg : g.method = m) (hn : As.length = n) (hsize : g.locals.size = nL) (hstack : g.stack = As.reverse ++ .ref b :: rest) (hW : 2 * g.monitorRoom + (rest.map fun v => v.category).sum ≤ 8) (hdg : decode cc g.pc = .ok (.invokevirtual index, 3)) (hf : cells + mc ≤ R.cells ∧ slots + ms ≤ R.slots) :
    vx_Run p l e R s m args below meth c H locs cells slots mc ms g rest (Qc (Value.ref b :: As).toArray) XC free := by
  obtain ⟨⟨hrc, hrs, hfr, hlo, hws, hcw⟩, hcode, hini, hy, hlen, hl, hin, hse⟩ := cw
  have hK : vx_Back l R p e below s args y 3 8 (PreOf R mc ms Pc) (PostOf Qc mc ms free) (vx_Post XC mc ms free) := vx_backW (hh := hh) (bytes := bytes) (maxL := maxL) (ret := ret) hM hp.1 hrc hrs hfr hlo hws hcw (fun a' U hW => word_at hW (Or.inl (by first | rfl | simp [Cond.onTables, Cond.keeps, Cond.steady])) hini)
  obtain ⟨hx, hb, hml, ho, -⟩ := S
  obtain ⟨-, ⟨cellB, hcB, hoB, hclB⟩, hPc⟩ := hp
  intro T hT X
  rcases vx_callVX X hx (C := C) (hh := hh) (bytes := bytes) (maxL := maxL) (ret := ret) ho hl hin hse hcode hy hK (by rw [hT]; exact hcB) hoB hclB hg (hsize.trans hml.symm) (argsL := As) (rest := rest) (fun sig h => hn.trans (hlen sig h)) hstack hW (by rw [hb]; exact hdg)
    (fun vm₁ hW₁ => ⟨hf.1, hf.2, hPc (T.setVm vm₁) hT hW₁⟩) with ⟨v, vm₁, ⟨U', l2, c2, s2⟩, hW₁, X', ⟨g', mk, t, L, e1, e2, hq, h1, hL, h2, h3⟩, st⟩ | ⟨q, vm₁, ⟨U', l2, c2, s2⟩, hW₁, X', ⟨g', mk, t, L, E, ce, e1, e2, hq, hce, hcv, hcl, h1, hL, h2, h3⟩, st⟩
  · dsimp only [Pt.U, Pt.locs, Pt.cells, Pt.slots] at X' e1 e2 h1 h2 h3 st
    subst h1; subst h2; subst h3
    exact Or.inl ⟨v, (T.setVm vm₁).calling g' mk (Value.ref b :: As).toArray, t, U', L, hT, X', hL, e1, e2, hq, st⟩
  · dsimp only [Pt.U, Pt.locs, Pt.cells, Pt.slots] at X' e1 e2 h1 h2 h3 st hcl
    subst h1; subst h2; subst h3
    exact Or.inr ⟨q, (T.setVm vm₁).calling g' mk (Value.ref b :: As).toArray, t, U', L, E, ce, hT, X', hL, e1, e2, hq, hce, hcv, vx_cls hW₁ hcl, st⟩
theorem vx_runSX {hh : List (Nat × Nat × Nat × Nat)} (S : CallFix p m c cc nL s args Ts own) (hM : vx_Met l y ws rm Pc Qc XC mc ms free) (cw : vx_CSW R s args own index y bytes maxL ret hh ws rm mc ms n) (hp : PreS s H Pc As)
    (hg : g.method = m) (hn : As.length = n) (hsize : g.locals.size = nL) (hstack : g.stack = As.reverse ++ rest) (hW : 2 * g.monitorRoom + (rest.map fun v => v.category).sum ≤ 8) (hdg : decode cc g.pc = .ok (.invokestatic index, 3)) (hf : cells + mc ≤ R.cells ∧ slots + ms ≤ R.slots) :
    vx_Run p l e R s m args below meth c H locs cells slots mc ms g rest (Qc As.toArray) XC free := by
  obtain ⟨⟨hrc, hrs, hfr, hlo, hws, hcw⟩, hcode, hini, hy, hlen, hl, hstt⟩ := cw
  have hK : vx_Back l R p e below s args y 3 8 (PreOf R mc ms Pc) (PostOf Qc mc ms free) (vx_Post XC mc ms free) := vx_backW (hh := hh) (bytes := bytes) (maxL := maxL) (ret := ret) hM hp.1 hrc hrs hfr hlo hws hcw (fun a' U hW => word_at hW (Or.inl (by first | rfl | simp [Cond.onTables, Cond.keeps, Cond.steady])) hini)
  obtain ⟨hx, hb, hml, ho, -⟩ := S
  intro T hT X
  rcases vx_callSX X hx (hh := hh) (bytes := bytes) (maxL := maxL) (ret := ret) ho hl hstt hini hcode hy hK hg (hsize.trans hml.symm) (argsL := As) (rest := rest) (fun sig h => hn.trans (hlen sig h)) hstack hW (by rw [hb]; exact hdg)
    (fun vm₁ hW₁ => ⟨hf.1, hf.2, hp.2 (T.setVm vm₁) hT hW₁⟩) with ⟨v, vm₁, ⟨U', l2, c2, s2⟩, hW₁, X', ⟨g', mk, t, L, e1, e2, hq, h1, hL, h2, h3⟩, st⟩ | ⟨q, vm₁, ⟨U', l2, c2, s2⟩, hW₁, X', ⟨g', mk, t, L, E, ce, e1, e2, hq, hce, hcv, hcl, h1, hL, h2, h3⟩, st⟩
  · dsimp only [Pt.U, Pt.locs, Pt.cells, Pt.slots] at X' e1 e2 h1 h2 h3 st
    subst h1; subst h2; subst h3
    exact Or.inl ⟨v, (T.setVm vm₁).calling g' mk As.toArray, t, U', L, hT, X', hL, e1, e2, hq, st⟩
  · dsimp only [Pt.U, Pt.locs, Pt.cells, Pt.slots] at X' e1 e2 h1 h2 h3 st hcl
    subst h1; subst h2; subst h3
    exact Or.inr ⟨q, (T.setVm vm₁).calling g' mk As.toArray, t, U', L, E, ce, hT, X', hL, e1, e2, hq, hce, hcv, vx_cls hW₁ hcl, st⟩
end
end VXH
theorem vx_ofWH {l : Launch} {y : MethodName} {ws ws' : List Cond} {rm : Room} {Pc : Array Value → State → Prop} {Qc : Array Value → State → Outcome → State → Prop} {XC : String → State → State → Prop} {mc ms : Nat} {free : Addr → Prop} {cc : ByteArray} {maxL : Nat} {ret : Option FieldType} {hh : List (Nat × Nat × Nat × Nat)}
    (hy : plainName y.cls = true) (hw : ws = Cond.codeWith y cc maxL ret hh :: ws')
    (body : ∀ p e s m args below meth c s₁, BodyLoose p l y (headSpec ws rm) cc maxL ret e s m args below meth c s₁ → c.maxLocals = maxL → Pc args s →
      W p l e (headSpec ws rm).room s m args below meth c s.heap [] 0 0 (vx_MQ below Qc XC args s mc ms free) (entryFrame m args maxL)) : vx_Met l y ws rm Pc Qc XC mc ms free := by
  refine MetFree.of_bodyS (code := cc) (maxLocals := maxL) (ret := ret) hy ?_ ?_
  · intro args s m h hn
    obtain ⟨m9, meth, c, hn9, h1, h2, h3, h4, -, h5, h6, -⟩ := Cond.codeWith_spec (atoms_spec (ws := ws) h _ (by rw [hw]; exact List.mem_cons_self))
    cases hn.symm.trans hn9
    exact ⟨meth, c, h1, h2, h3, h4, h5, h6⟩
  · intro p e s m args below meth c s₁ B hml hP _
    have hh0 : s₁.heap = s.heap := by rw [B.state]; rfl
    obtain ⟨t, a1, o, b1, b2, b3⟩ := body p e s m args below meth c s₁ B hml hP s₁ hh0 (Stand.of_body B)
    exact ⟨t, o, a1, b1, b2, b3⟩
/-! ===== END ===== -/
end
section
/-! ===== BEGIN printed: names, fields, word lists, decode rows ===== -/
def RX0 : String := "TapePrinter$Row"
def TX0 : u_T := fun k => match k with
  | 0 => ("TapePrinter$Row", "values", "[I", true)
  | _ => ("TapePrinter$Row", "size", "I", false)
def tyX0 : Nat → FieldType := fun k => match k with
  | 0 => .array .int
  | _ => .int
abbrev wsX00 : List Cond := u_ws RX0 TX0 2
theorem nmX0 : ∀ a, a < 2 → ∀ b, b < 2 → a ≠ b → (TX0 a).2.1 ≠ (TX0 b).2.1 := by decide +kernel
theorem tyX0_ok : ∀ k, k < 2 → parseFieldDescriptor (TX0 k).2.2.1 = some (tyX0 k) := by decide +kernel
abbrev cX0_init : ByteArray := prog_2_method_1_code
def yX0_init : MethodName := ⟨RX0, "<init>", "(I)V"⟩
abbrev cX0_size : ByteArray := prog_2_method_2_code
def yX0_size : MethodName := ⟨RX0, "size", "()I"⟩
abbrev cX0_room : ByteArray := prog_2_method_3_code
def yX0_room : MethodName := ⟨RX0, "room", "()I"⟩
abbrev cX0_has : ByteArray := prog_2_method_4_code
def yX0_has : MethodName := ⟨RX0, "has", "(I)Z"⟩
abbrev cX0_at : ByteArray := prog_2_method_5_code
def yX0_at : MethodName := ⟨RX0, "at", "(I)I"⟩
abbrev cX0_change : ByteArray := prog_2_method_6_code
def yX0_change : MethodName := ⟨RX0, "change", "(II)V"⟩
abbrev cX0_add : ByteArray := prog_2_method_7_code
def yX0_add : MethodName := ⟨RX0, "add", "(I)Z"⟩
abbrev cX0_clear : ByteArray := prog_2_method_8_code
def yX0_clear : MethodName := ⟨RX0, "clear", "()V"⟩
def RX1 : String := "TapePrinter$Sheet"
def TX1 : u_T := fun k => match k with
  | 0 => ("TapePrinter$Sheet", "rows", "[LTapePrinter$Row;", true)
  | 1 => ("TapePrinter$Sheet", "first", "I", false)
  | _ => ("TapePrinter$Sheet", "used", "I", false)
def tyX1 : Nat → FieldType := fun k => match k with
  | 0 => .array (.object "TapePrinter$Row")
  | 1 => .int
  | _ => .int
abbrev wsX10 : List Cond := u_ws RX1 TX1 3
theorem nmX1 : ∀ a, a < 3 → ∀ b, b < 3 → a ≠ b → (TX1 a).2.1 ≠ (TX1 b).2.1 := by decide +kernel
theorem tyX1_ok : ∀ k, k < 3 → parseFieldDescriptor (TX1 k).2.2.1 = some (tyX1 k) := by decide +kernel
abbrev cX1_init : ByteArray := prog_3_method_1_code
def yX1_init : MethodName := ⟨RX1, "<init>", "()V"⟩
abbrev cX1_lines : ByteArray := prog_3_method_2_code
def yX1_lines : MethodName := ⟨RX1, "lines", "()I"⟩
abbrev cX1_row : ByteArray := prog_3_method_3_code
def yX1_row : MethodName := ⟨RX1, "row", "(I)LTapePrinter$Row;"⟩
abbrev cX1_add : ByteArray := prog_3_method_4_code
def yX1_add : MethodName := ⟨RX1, "add", "(I)Z"⟩
abbrev cX1_beginLine : ByteArray := prog_3_method_5_code
def yX1_beginLine : MethodName := ⟨RX1, "beginLine", "()V"⟩
abbrev cX1_characters : ByteArray := prog_3_method_6_code
def yX1_characters : MethodName := ⟨RX1, "characters", "()I"⟩
def RX2 : String := "TapePrinter$Wire"
def TX2 : u_T := fun k => match k with
  | 0 => ("TapePrinter$Wire", "late", "LTapePrinter$Row;", true)
  | 1 => ("TapePrinter$Wire", "garbled", "LTapePrinter$Row;", true)
  | _ => ("TapePrinter$Wire", "play", "I", false)
def tyX2 : Nat → FieldType := fun k => match k with
  | 0 => .object "TapePrinter$Row"
  | 1 => .object "TapePrinter$Row"
  | _ => .int
abbrev wsX20 : List Cond := u_ws RX2 TX2 3
theorem nmX2 : ∀ a, a < 3 → ∀ b, b < 3 → a ≠ b → (TX2 a).2.1 ≠ (TX2 b).2.1 := by decide +kernel
theorem tyX2_ok : ∀ k, k < 3 → parseFieldDescriptor (TX2 k).2.2.1 = some (tyX2 k) := by decide +kernel
abbrev cX2_init : ByteArray := prog_4_method_1_code
def yX2_init : MethodName := ⟨RX2, "<init>", "()V"⟩
abbrev cX2_play : ByteArray := prog_4_method_2_code
def yX2_play : MethodName := ⟨RX2, "play", "()I"⟩
abbrev cX2_changePlay : ByteArray := prog_4_method_3_code
def yX2_changePlay : MethodName := ⟨RX2, "changePlay", "(I)V"⟩
abbrev cX2_lateAt : ByteArray := prog_4_method_4_code
def yX2_lateAt : MethodName := ⟨RX2, "lateAt", "(I)I"⟩
abbrev cX2_change : ByteArray := prog_4_method_6_code
def yX2_change : MethodName := ⟨RX2, "change", "(III)V"⟩
abbrev cX2_readAs : ByteArray := prog_4_method_7_code
def yX2_readAs : MethodName := ⟨RX2, "readAs", "(II)I"⟩
def RX3 : String := "TapePrinter"
def TX3 : u_T := fun k => match k with
  | 0 => ("TapePrinter", "wire", "LTapePrinter$Wire;", true)
  | 1 => ("TapePrinter", "sheet", "LTapePrinter$Sheet;", true)
  | 2 => ("TapePrinter", "strip", "LTapePrinter$Row;", true)
  | 3 => ("TapePrinter", "reader", "I", false)
  | 4 => ("TapePrinter", "figures", "Z", false)
  | 5 => ("TapePrinter", "unshifts", "Z", false)
  | 6 => ("TapePrinter", "came", "I", false)
  | 7 => ("TapePrinter", "misread", "I", false)
  | 8 => ("TapePrinter", "lost", "I", false)
  | _ => ("TapePrinter", "bells", "I", false)
def tyX3 : Nat → FieldType := fun k => match k with
  | 0 => .object "TapePrinter$Wire"
  | 1 => .object "TapePrinter$Sheet"
  | 2 => .object "TapePrinter$Row"
  | 3 => .int
  | 4 => .boolean
  | 5 => .boolean
  | 6 => .int
  | 7 => .int
  | 8 => .int
  | _ => .int
abbrev wsX30 : List Cond := u_ws RX3 TX3 10
theorem nmX3 : ∀ a, a < 10 → ∀ b, b < 10 → a ≠ b → (TX3 a).2.1 ≠ (TX3 b).2.1 := by decide +kernel
theorem tyX3_ok : ∀ k, k < 10 → parseFieldDescriptor (TX3 k).2.2.1 = some (tyX3 k) := by decide +kernel
abbrev cX3_init : ByteArray := prog_1_method_1_code
def yX3_init : MethodName := ⟨RX3, "<init>", "()V"⟩
abbrev cX3_character : ByteArray := prog_1_method_3_code
def yX3_character : MethodName := ⟨RX3, "character", "(IZ)I"⟩
abbrev cX3_setLine : ByteArray := prog_1_method_6_code
def yX3_setLine : MethodName := ⟨RX3, "setLine", "(III)I"⟩
abbrev cX3_setPlay : ByteArray := prog_1_method_7_code
def yX3_setPlay : MethodName := ⟨RX3, "setPlay", "(I)I"⟩
abbrev cX3_setUnshift : ByteArray := prog_1_method_8_code
def yX3_setUnshift : MethodName := ⟨RX3, "setUnshift", "(Z)Z"⟩
abbrev cX3_receive : ByteArray := prog_1_method_9_code
def yX3_receive : MethodName := ⟨RX3, "receive", "(I)I"⟩
abbrev cX3_punch : ByteArray := prog_1_method_10_code
def yX3_punch : MethodName := ⟨RX3, "punch", "(I)I"⟩
abbrev cX3_type : ByteArray := prog_1_method_11_code
def yX3_type : MethodName := ⟨RX3, "type", "(I)I"⟩
abbrev cX3_rub : ByteArray := prog_1_method_12_code
def yX3_rub : MethodName := ⟨RX3, "rub", "(I)I"⟩
abbrev cX3_run : ByteArray := prog_1_method_13_code
def yX3_run : MethodName := ⟨RX3, "run", "(I)I"⟩
abbrev cX3_wind : ByteArray := prog_1_method_14_code
def yX3_wind : MethodName := ⟨RX3, "wind", "(I)I"⟩
abbrev cX3_tape : ByteArray := prog_1_method_15_code
def yX3_tape : MethodName := ⟨RX3, "tape", "(I)I"⟩
abbrev cX3_page : ByteArray := prog_1_method_16_code
def yX3_page : MethodName := ⟨RX3, "page", "(II)I"⟩
abbrev cX3_length : ByteArray := prog_1_method_17_code
def yX3_length : MethodName := ⟨RX3, "length", "(I)I"⟩
abbrev cX3_count : ByteArray := prog_1_method_18_code
def yX3_count : MethodName := ⟨RX3, "count", "(I)I"⟩
abbrev cX3_would : ByteArray := prog_1_method_19_code
def yX3_would : MethodName := ⟨RX3, "would", "(I)I"⟩
abbrev cX3_wrong : ByteArray := prog_1_method_20_code
def yX3_wrong : MethodName := ⟨RX3, "wrong", "()I"⟩
abbrev cX3_idle : ByteArray := prog_1_method_21_code
def yX3_idle : MethodName := ⟨RX3, "idle", "()I"⟩
abbrev cX3_prints : ByteArray := prog_1_method_22_code
def yX3_prints : MethodName := ⟨RX3, "prints", "(I)I"⟩
abbrev cX3_mean : ByteArray := prog_1_method_23_code
def yX3_mean : MethodName := ⟨RX3, "mean", "()D"⟩
abbrev cX3_counted : ByteArray := prog_1_method_27_code
def yX3_counted : MethodName := ⟨RX3, "counted", "(I)I"⟩
abbrev cX3_isCode : ByteArray := prog_1_method_28_code
def yX3_isCode : MethodName := ⟨RX3, "isCode", "(I)Z"⟩
abbrev cX3_isCharacter : ByteArray := prog_1_method_29_code
def yX3_isCharacter : MethodName := ⟨RX3, "isCharacter", "(I)Z"⟩
abbrev cX3_isFigure : ByteArray := prog_1_method_30_code
def yX3_isFigure : MethodName := ⟨RX3, "isFigure", "(I)Z"⟩
abbrev cX3_codeOf : ByteArray := prog_1_method_31_code
def yX3_codeOf : MethodName := ⟨RX3, "codeOf", "(I)I"⟩
abbrev cX3_characterOf : ByteArray := prog_1_method_32_code
def yX3_characterOf : MethodName := ⟨RX3, "characterOf", "(IZ)I"⟩
abbrev cX3_dependsOnShift : ByteArray := prog_1_method_33_code
def yX3_dependsOnShift : MethodName := ⟨RX3, "dependsOnShift", "(I)Z"⟩
abbrev cX3_characterInLetters : ByteArray := prog_1_method_34_code
def yX3_characterInLetters : MethodName := ⟨RX3, "characterInLetters", "(I)I"⟩
abbrev cX3_isShift : ByteArray := prog_1_method_35_code
def yX3_isShift : MethodName := ⟨RX3, "isShift", "(I)Z"⟩
abbrev cX3_figuresBehind : ByteArray := prog_1_method_36_code
def yX3_figuresBehind : MethodName := ⟨RX3, "figuresBehind", "(IZ)Z"⟩
abbrev cX3_shiftsToLetters : ByteArray := prog_1_method_37_code
def yX3_shiftsToLetters : MethodName := ⟨RX3, "shiftsToLetters", "(I)Z"⟩
abbrev cX3_figuresAhead : ByteArray := prog_1_method_38_code
def yX3_figuresAhead : MethodName := ⟨RX3, "figuresAhead", "(I)Z"⟩
abbrev cX3_figuresAtEnd : ByteArray := prog_1_method_39_code
def yX3_figuresAtEnd : MethodName := ⟨RX3, "figuresAtEnd", "()Z"⟩
abbrev cX3_servesBehind : ByteArray := prog_1_method_40_code
def yX3_servesBehind : MethodName := ⟨RX3, "servesBehind", "(I)Z"⟩
abbrev cX3_takeIn : ByteArray := prog_1_method_41_code
def yX3_takeIn : MethodName := ⟨RX3, "takeIn", "(I)I"⟩
abbrev cX3_obey : ByteArray := prog_1_method_42_code
def yX3_obey : MethodName := ⟨RX3, "obey", "(I)V"⟩
def RX4 : String := "TapePrinterLaw$Sim"
def TX4 : u_T := fun k => match k with
  | 0 => ("TapePrinterLaw$Sim", "letters", "[I", false)
  | 1 => ("TapePrinterLaw$Sim", "figures", "[I", false)
  | 2 => ("TapePrinterLaw$Sim", "page", "[[I", false)
  | 3 => ("TapePrinterLaw$Sim", "isFigures", "Z", false)
  | 4 => ("TapePrinterLaw$Sim", "unshifts", "Z", false)
  | 5 => ("TapePrinterLaw$Sim", "play", "I", false)
  | 6 => ("TapePrinterLaw$Sim", "late", "[I", false)
  | 7 => ("TapePrinterLaw$Sim", "garble", "[I", false)
  | 8 => ("TapePrinterLaw$Sim", "tape", "[I", false)
  | 9 => ("TapePrinterLaw$Sim", "reader", "I", false)
  | 10 => ("TapePrinterLaw$Sim", "came", "I", false)
  | 11 => ("TapePrinterLaw$Sim", "wrong", "I", false)
  | 12 => ("TapePrinterLaw$Sim", "lost", "I", false)
  | _ => ("TapePrinterLaw$Sim", "rang", "I", false)
def tyX4 : Nat → FieldType := fun k => match k with
  | 0 => .array .int
  | 1 => .array .int
  | 2 => .array (.array .int)
  | 3 => .boolean
  | 4 => .boolean
  | 5 => .int
  | 6 => .array .int
  | 7 => .array .int
  | 8 => .array .int
  | 9 => .int
  | 10 => .int
  | 11 => .int
  | 12 => .int
  | _ => .int
abbrev wsX40 : List Cond := u_ws RX4 TX4 14
theorem nmX4 : ∀ a, a < 14 → ∀ b, b < 14 → a ≠ b → (TX4 a).2.1 ≠ (TX4 b).2.1 := by decide +kernel
theorem tyX4_ok : ∀ k, k < 14 → parseFieldDescriptor (TX4 k).2.2.1 = some (tyX4 k) := by decide +kernel
abbrev cX4_init : ByteArray := prog_6_method_1_code
def yX4_init : MethodName := ⟨RX4, "<init>", "()V"⟩
abbrev cX4_more : ByteArray := prog_6_method_2_code
def yX4_more : MethodName := ⟨RX4, "more", "([II)[I"⟩
abbrev cX4_read : ByteArray := prog_6_method_3_code
def yX4_read : MethodName := ⟨RX4, "read", "(II)I"⟩
abbrev cX4_after : ByteArray := prog_6_method_4_code
def yX4_after : MethodName := ⟨RX4, "after", "(ZI)Z"⟩
abbrev cX4_come : ByteArray := prog_6_method_5_code
def yX4_come : MethodName := ⟨RX4, "come", "(I)I"⟩
abbrev cX4_shifts : ByteArray := prog_6_method_6_code
def yX4_shifts : MethodName := ⟨RX4, "shifts", "()[Z"⟩
abbrev cX4_isSame : ByteArray := prog_6_method_7_code
def yX4_isSame : MethodName := ⟨RX4, "isSame", "(LTapePrinter;)Z"⟩
def RX5 : String := "TapePrinterModel"
def TX5 : u_T := fun k => match k with
  | _ => ("", "", "", false)
def tyX5 : Nat → FieldType := fun k => match k with
  | _ => .int
abbrev wsX50 : List Cond := u_ws RX5 TX5 0
theorem nmX5 : ∀ a, a < 0 → ∀ b, b < 0 → a ≠ b → (TX5 a).2.1 ≠ (TX5 b).2.1 := by decide +kernel
theorem tyX5_ok : ∀ k, k < 0 → parseFieldDescriptor (TX5 k).2.2.1 = some (tyX5 k) := by decide +kernel
def RJ9 : String := "java/lang/Math"
def TJ9 : u_T := fun k => match k with
  | _ => ("", "", "", false)
def tyJ9 : Nat → FieldType := fun k => match k with
  | _ => .int
abbrev wsJ90 : List Cond := u_ws RJ9 TJ9 0
theorem nmJ9 : ∀ a, a < 0 → ∀ b, b < 0 → a ≠ b → (TJ9 a).2.1 ≠ (TJ9 b).2.1 := by decide +kernel
theorem tyJ9_ok : ∀ k, k < 0 → parseFieldDescriptor (TJ9 k).2.2.1 = some (tyJ9 k) := by decide +kernel
abbrev cJ9_min_7cf53 : ByteArray := prog_12_method_69_code
def yJ9_min_7cf53 : MethodName := ⟨RJ9, "min", "(II)I"⟩
def RJ0 : String := "java/lang/String"
def TJ0 : u_T := fun k => match k with
  | _ => ("", "", "", false)
def tyJ0 : Nat → FieldType := fun k => match k with
  | _ => .int
abbrev wsJ00 : List Cond := u_ws RJ0 TJ0 0
theorem nmJ0 : ∀ a, a < 0 → ∀ b, b < 0 → a ≠ b → (TJ0 a).2.1 ≠ (TJ0 b).2.1 := by decide +kernel
theorem tyJ0_ok : ∀ k, k < 0 → parseFieldDescriptor (TJ0 k).2.2.1 = some (tyJ0 k) := by decide +kernel
def RL : String := "TapePrinterLaw"
abbrev cL_below : ByteArray := method_2_code
def yL_below : MethodName := ⟨RL, "below", "(II)I"⟩
abbrev cL_cell : ByteArray := method_3_code
def yL_cell : MethodName := ⟨RL, "cell", "([II)I"⟩
abbrev cL_isType : ByteArray := method_4_code
def yL_isType : MethodName := ⟨RL, "isType", "(I)Z"⟩
abbrev cL_codes : ByteArray := method_5_code
def yL_codes : MethodName := ⟨RL, "codes", "()[I"⟩
abbrev cL_characters : ByteArray := method_6_code
def yL_characters : MethodName := ⟨RL, "characters", "(Z)[I"⟩
abbrev cL_act : ByteArray := method_7_code
def yL_act : MethodName := ⟨RL, "act", "(LTapePrinter;LTapePrinterLaw$Sim;I)Z"⟩
abbrev cL_build : ByteArray := method_8_code
def yL_build : MethodName := ⟨RL, "build", "(LTapePrinter;[I)LTapePrinterLaw$Sim;"⟩
abbrev cL_law : ByteArray := code
def yL_law : MethodName := ⟨RL, "law", "([I)Z"⟩
def wsX0_init : List Cond := .code yX0_init cX0_init 2 none :: ([.methodLink RX0 1 objectInit, .instanceMethod objectInit, .code objectInit ⟨#[0xb1]⟩ 1 none, .arrayClass .int, .fieldLink RX0 7 "TapePrinter$Row" "values" "[I"] ++ wsX00)
def wsX0_size : List Cond := .code yX0_size cX0_size 1 (some .int) :: ([.fieldLink RX0 13 "TapePrinter$Row" "size" "I"] ++ wsX00)
def wsX0_room : List Cond := .code yX0_room cX0_room 1 (some .int) :: ([.fieldLink RX0 7 "TapePrinter$Row" "values" "[I", .fieldLink RX0 13 "TapePrinter$Row" "size" "I"] ++ wsX00)
def wsX0_has : List Cond := .code yX0_has cX0_has 2 (some .boolean) :: ([.fieldLink RX0 13 "TapePrinter$Row" "size" "I", .fieldLink RX0 7 "TapePrinter$Row" "values" "[I"] ++ wsX00)
def wsX0_at : List Cond := .code yX0_at cX0_at 2 (some .int) :: ([.fieldLink RX0 7 "TapePrinter$Row" "values" "[I", .methodLink RX0 17 yX0_has, .instanceMethod yX0_has, .selects RX0 yX0_has yX0_has, .initialized RX0, .code yX0_has cX0_has 2 (some .boolean), .fieldLink RX0 13 "TapePrinter$Row" "size" "I"] ++ wsX00)
def wsX0_change : List Cond := .code yX0_change cX0_change 3 none :: ([.fieldLink RX0 7 "TapePrinter$Row" "values" "[I", .methodLink RX0 17 yX0_has, .instanceMethod yX0_has, .selects RX0 yX0_has yX0_has, .initialized RX0, .code yX0_has cX0_has 2 (some .boolean), .fieldLink RX0 13 "TapePrinter$Row" "size" "I"] ++ wsX00)
def wsX0_add : List Cond := .code yX0_add cX0_add 2 (some .boolean) :: ([.fieldLink RX0 13 "TapePrinter$Row" "size" "I", .fieldLink RX0 7 "TapePrinter$Row" "values" "[I"] ++ wsX00)
def wsX0_clear : List Cond := .code yX0_clear cX0_clear 1 none :: ([.fieldLink RX0 13 "TapePrinter$Row" "size" "I"] ++ wsX00)
def wsX1_init : List Cond := .code yX1_init cX1_init 2 none :: ([.methodLink RX1 3 objectInit, .instanceMethod objectInit, .code objectInit ⟨#[0xb1]⟩ 1 none, .classLink RX1 9 RX0, .fieldLink RX1 11 "TapePrinter$Sheet" "rows" "[LTapePrinter$Row;", .fieldLink RX1 17 "TapePrinter$Sheet" "used" "I", .instantiable RX0 2, .initialized RX0, .methodLink RX1 21 yX0_init, .instanceMethod yX0_init, .code yX0_init cX0_init 2 none, .methodLink RX0 1 objectInit, .arrayClass .int, .fieldLink RX0 7 "TapePrinter$Row" "values" "[I"] ++ wsX10 ++ wsX00)
def wsX1_lines : List Cond := .code yX1_lines cX1_lines 1 (some .int) :: ([.fieldLink RX1 17 "TapePrinter$Sheet" "used" "I"] ++ wsX10)
def wsX1_row : List Cond := .code yX1_row cX1_row 3 (some (.object "TapePrinter$Row")) :: ([.fieldLink RX1 17 "TapePrinter$Sheet" "used" "I", .fieldLink RX1 24 "TapePrinter$Sheet" "first" "I", .fieldLink RX1 11 "TapePrinter$Sheet" "rows" "[LTapePrinter$Row;"] ++ wsX10)
def wsX1_add : List Cond := .code yX1_add cX1_add 3 (some .boolean) :: ([.fieldLink RX1 17 "TapePrinter$Sheet" "used" "I", .methodLink RX1 27 yX1_row, .instanceMethod yX1_row, .selects RX1 yX1_row yX1_row, .initialized RX1, .code yX1_row cX1_row 3 (some (.object "TapePrinter$Row")), .fieldLink RX1 24 "TapePrinter$Sheet" "first" "I", .fieldLink RX1 11 "TapePrinter$Sheet" "rows" "[LTapePrinter$Row;", .methodLink RX1 31 yX0_add, .instanceMethod yX0_add, .selects RX0 yX0_add yX0_add, .initialized RX0, .code yX0_add cX0_add 2 (some .boolean), .fieldLink RX0 13 "TapePrinter$Row" "size" "I", .fieldLink RX0 7 "TapePrinter$Row" "values" "[I"] ++ wsX10 ++ wsX00)
def wsX1_beginLine : List Cond := .code yX1_beginLine cX1_beginLine 2 none :: ([.fieldLink RX1 17 "TapePrinter$Sheet" "used" "I", .fieldLink RX1 24 "TapePrinter$Sheet" "first" "I", .methodLink RX1 27 yX1_row, .instanceMethod yX1_row, .selects RX1 yX1_row yX1_row, .initialized RX1, .code yX1_row cX1_row 3 (some (.object "TapePrinter$Row")), .fieldLink RX1 11 "TapePrinter$Sheet" "rows" "[LTapePrinter$Row;", .methodLink RX1 35 yX0_clear, .instanceMethod yX0_clear, .selects RX0 yX0_clear yX0_clear, .initialized RX0, .code yX0_clear cX0_clear 1 none, .fieldLink RX0 13 "TapePrinter$Row" "size" "I"] ++ wsX10 ++ wsX00)
def wsX1_characters : List Cond := .code yX1_characters cX1_characters 4 (some .int) :: ([.fieldLink RX1 17 "TapePrinter$Sheet" "used" "I", .methodLink RX1 27 yX1_row, .instanceMethod yX1_row, .selects RX1 yX1_row yX1_row, .initialized RX1, .code yX1_row cX1_row 3 (some (.object "TapePrinter$Row")), .fieldLink RX1 24 "TapePrinter$Sheet" "first" "I", .fieldLink RX1 11 "TapePrinter$Sheet" "rows" "[LTapePrinter$Row;", .methodLink RX1 38 yX0_size, .instanceMethod yX0_size, .selects RX0 yX0_size yX0_size, .initialized RX0, .code yX0_size cX0_size 1 (some .int), .fieldLink RX0 13 "TapePrinter$Row" "size" "I"] ++ wsX10 ++ wsX00)
def wsX2_init : List Cond := .code yX2_init cX2_init 2 none :: ([.methodLink RX2 3 objectInit, .instanceMethod objectInit, .code objectInit ⟨#[0xb1]⟩ 1 none, .classLink RX2 9 RX0, .instantiable RX0 2, .initialized RX0, .fieldLink RX2 14 "TapePrinter$Wire" "late" "LTapePrinter$Row;", .fieldLink RX2 20 "TapePrinter$Wire" "garbled" "LTapePrinter$Row;", .methodLink RX2 11 yX0_init, .instanceMethod yX0_init, .code yX0_init cX0_init 2 none, .methodLink RX0 1 objectInit, .arrayClass .int, .fieldLink RX0 7 "TapePrinter$Row" "values" "[I", .methodLink RX2 23 yX0_add, .instanceMethod yX0_add, .selects RX0 yX0_add yX0_add, .code yX0_add cX0_add 2 (some .boolean), .fieldLink RX0 13 "TapePrinter$Row" "size" "I"] ++ wsX00 ++ wsX20)
def wsX2_play : List Cond := .code yX2_play cX2_play 1 (some .int) :: ([.fieldLink RX2 27 "TapePrinter$Wire" "play" "I"] ++ wsX20)
def wsX2_changePlay : List Cond := .code yX2_changePlay cX2_changePlay 2 none :: ([.fieldLink RX2 27 "TapePrinter$Wire" "play" "I"] ++ wsX20)
def wsX2_lateAt : List Cond := .code yX2_lateAt cX2_lateAt 2 (some .int) :: ([.fieldLink RX2 14 "TapePrinter$Wire" "late" "LTapePrinter$Row;", .methodLink RX2 31 yX0_at, .instanceMethod yX0_at, .selects RX0 yX0_at yX0_at, .initialized RX0, .code yX0_at cX0_at 2 (some .int), .fieldLink RX0 7 "TapePrinter$Row" "values" "[I", .methodLink RX0 17 yX0_has, .instanceMethod yX0_has, .selects RX0 yX0_has yX0_has, .code yX0_has cX0_has 2 (some .boolean), .fieldLink RX0 13 "TapePrinter$Row" "size" "I"] ++ wsX20 ++ wsX00)
def wsX2_change : List Cond := .code yX2_change cX2_change 4 none :: ([.fieldLink RX2 14 "TapePrinter$Wire" "late" "LTapePrinter$Row;", .fieldLink RX2 20 "TapePrinter$Wire" "garbled" "LTapePrinter$Row;", .methodLink RX2 35 yX0_change, .instanceMethod yX0_change, .selects RX0 yX0_change yX0_change, .initialized RX0, .code yX0_change cX0_change 3 none, .fieldLink RX0 7 "TapePrinter$Row" "values" "[I", .methodLink RX0 17 yX0_has, .instanceMethod yX0_has, .selects RX0 yX0_has yX0_has, .code yX0_has cX0_has 2 (some .boolean), .fieldLink RX0 13 "TapePrinter$Row" "size" "I"] ++ wsX20 ++ wsX00)
def wsX2_readAs : List Cond := .code yX2_readAs cX2_readAs 6 (some .int) :: ([.fieldLink RX2 20 "TapePrinter$Wire" "garbled" "LTapePrinter$Row;", .fieldLink RX2 14 "TapePrinter$Wire" "late" "LTapePrinter$Row;", .fieldLink RX2 27 "TapePrinter$Wire" "play" "I", .methodLink RX2 31 yX0_at, .instanceMethod yX0_at, .selects RX0 yX0_at yX0_at, .initialized RX0, .code yX0_at cX0_at 2 (some .int), .fieldLink RX0 7 "TapePrinter$Row" "values" "[I", .methodLink RX0 17 yX0_has, .instanceMethod yX0_has, .selects RX0 yX0_has yX0_has, .code yX0_has cX0_has 2 (some .boolean), .fieldLink RX0 13 "TapePrinter$Row" "size" "I"] ++ wsX20 ++ wsX00)
def wsX3_init_r1 : List Cond := [Cond.methodLink RX3 1 objectInit, Cond.instanceMethod objectInit, Cond.code objectInit ⟨#[0xb1]⟩ 1 none, Cond.classLink RX3 7 RX2, Cond.instantiable RX2 3, Cond.initialized RX2, Cond.fieldLink RX3 10 "TapePrinter" "wire" "LTapePrinter$Wire;", Cond.classLink RX3 16 RX1, Cond.instantiable RX1 3, Cond.initialized RX1, Cond.fieldLink RX3 19 "TapePrinter" "sheet" "LTapePrinter$Sheet;", Cond.classLink RX3 23 RX0, Cond.instantiable RX0 2, Cond.initialized RX0, Cond.fieldLink RX3 28 "TapePrinter" "strip" "LTapePrinter$Row;", Cond.methodLink RX3 9 yX2_init, Cond.instanceMethod yX2_init, Cond.code yX2_init cX2_init 2 none, Cond.methodLink RX2 3 objectInit, Cond.classLink RX2 9 RX0, Cond.fieldLink RX2 14 "TapePrinter$Wire" "late" "LTapePrinter$Row;", Cond.fieldLink RX2 20 "TapePrinter$Wire" "garbled" "LTapePrinter$Row;", Cond.methodLink RX2 11 yX0_init, Cond.instanceMethod yX0_init]
def wsX3_init_r2 : List Cond := [Cond.code yX0_init cX0_init 2 none, Cond.methodLink RX0 1 objectInit, Cond.arrayClass .int, Cond.fieldLink RX0 7 "TapePrinter$Row" "values" "[I", Cond.methodLink RX2 23 yX0_add, Cond.instanceMethod yX0_add, Cond.selects RX0 yX0_add yX0_add, Cond.code yX0_add cX0_add 2 (some .boolean), Cond.fieldLink RX0 13 "TapePrinter$Row" "size" "I", Cond.methodLink RX3 18 yX1_init, Cond.instanceMethod yX1_init, Cond.code yX1_init cX1_init 2 none, Cond.methodLink RX1 3 objectInit, Cond.classLink RX1 9 RX0, Cond.fieldLink RX1 11 "TapePrinter$Sheet" "rows" "[LTapePrinter$Row;", Cond.fieldLink RX1 17 "TapePrinter$Sheet" "used" "I", Cond.methodLink RX1 21 yX0_init, Cond.methodLink RX3 25 yX0_init]
def wsX3_init : List Cond := .code yX3_init cX3_init 1 none :: ((wsX3_init_r1 ++ wsX3_init_r2) ++ wsX20 ++ wsX30 ++ wsX10 ++ wsX00)
def wsX3_isCode : List Cond := .code yX3_isCode cX3_isCode 1 (some .boolean) :: ([])
def wsX3_characterInLetters : List Cond := .code yX3_characterInLetters cX3_characterInLetters 1 (some .int) :: ([.fieldLink RX3 214 "TapePrinter" "CHARACTERS" "[I"])
def wsX3_dependsOnShift : List Cond := .code yX3_dependsOnShift cX3_dependsOnShift 2 (some .boolean) :: ([.methodLink RX3 211 yX3_characterInLetters, .static yX3_characterInLetters, .initialized RX3, .code yX3_characterInLetters cX3_characterInLetters 1 (some .int), .fieldLink RX3 214 "TapePrinter" "CHARACTERS" "[I"])
def wsX3_characterOf : List Cond := .code yX3_characterOf cX3_characterOf 3 (some .int) :: ([.methodLink RX3 211 yX3_characterInLetters, .static yX3_characterInLetters, .initialized RX3, .code yX3_characterInLetters cX3_characterInLetters 1 (some .int), .fieldLink RX3 214 "TapePrinter" "CHARACTERS" "[I", .methodLink RX3 113 yX3_dependsOnShift, .static yX3_dependsOnShift, .code yX3_dependsOnShift cX3_dependsOnShift 2 (some .boolean)])
def wsX3_character : List Cond := .code yX3_character cX3_character 3 (some .int) :: ([.classLink RX3 36 "java/lang/IndexOutOfBoundsException", .initialized "java/lang/IndexOutOfBoundsException", .methodLink RX3 47 yX3_isCode, .static yX3_isCode, .initialized RX3, .code yX3_isCode cX3_isCode 1 (some .boolean), .methodLink RX3 52 yX3_characterOf, .static yX3_characterOf, .code yX3_characterOf cX3_characterOf 3 (some .int), .methodLink RX3 211 yX3_characterInLetters, .static yX3_characterInLetters, .code yX3_characterInLetters cX3_characterInLetters 1 (some .int), .fieldLink RX3 214 "TapePrinter" "CHARACTERS" "[I", .methodLink RX3 113 yX3_dependsOnShift, .static yX3_dependsOnShift, .code yX3_dependsOnShift cX3_dependsOnShift 2 (some .boolean)] ++ (vx_atS RX3 40 "java/lang/IndexOutOfBoundsException" ["java/lang/RuntimeException", "java/lang/Exception"]).filter goodWord)
def wsX3_setLine_r1 : List Cond := [Cond.classLink RX3 36 "java/lang/IndexOutOfBoundsException", Cond.initialized "java/lang/IndexOutOfBoundsException", Cond.classLink RX3 67 "java/lang/IllegalArgumentException", Cond.initialized "java/lang/IllegalArgumentException", Cond.fieldLink RX3 10 "TapePrinter" "wire" "LTapePrinter$Wire;", Cond.methodLink RX3 47 yX3_isCode, Cond.static yX3_isCode, Cond.initialized RX3, Cond.code yX3_isCode cX3_isCode 1 (some .boolean), Cond.methodLink RX3 74 yX2_lateAt, Cond.instanceMethod yX2_lateAt, Cond.selects RX2 yX2_lateAt yX2_lateAt, Cond.initialized RX2, Cond.code yX2_lateAt cX2_lateAt 2 (some .int), Cond.fieldLink RX2 14 "TapePrinter$Wire" "late" "LTapePrinter$Row;", Cond.methodLink RX2 31 yX0_at, Cond.instanceMethod yX0_at, Cond.selects RX0 yX0_at yX0_at, Cond.initialized RX0, Cond.code yX0_at cX0_at 2 (some .int), Cond.fieldLink RX0 7 "TapePrinter$Row" "values" "[I", Cond.methodLink RX0 17 yX0_has, Cond.instanceMethod yX0_has, Cond.selects RX0 yX0_has yX0_has]
def wsX3_setLine_r2 : List Cond := [Cond.code yX0_has cX0_has 2 (some .boolean), Cond.fieldLink RX0 13 "TapePrinter$Row" "size" "I", Cond.methodLink RX3 77 yX2_change, Cond.instanceMethod yX2_change, Cond.selects RX2 yX2_change yX2_change, Cond.code yX2_change cX2_change 4 none, Cond.fieldLink RX2 20 "TapePrinter$Wire" "garbled" "LTapePrinter$Row;", Cond.methodLink RX2 35 yX0_change, Cond.instanceMethod yX0_change, Cond.selects RX0 yX0_change yX0_change, Cond.code yX0_change cX0_change 3 none]
def wsX3_setLine : List Cond := .code yX3_setLine cX3_setLine 5 (some .int) :: ((wsX3_setLine_r1 ++ wsX3_setLine_r2) ++ wsX30 ++ wsX20 ++ wsX00 ++ (vx_atS RX3 40 "java/lang/IndexOutOfBoundsException" ["java/lang/RuntimeException", "java/lang/Exception"]).filter goodWord ++ (vx_atS RX3 71 "java/lang/IllegalArgumentException" ["java/lang/RuntimeException", "java/lang/Exception"]).filter goodWord)
def wsX3_setPlay : List Cond := .code yX3_setPlay cX3_setPlay 3 (some .int) :: ([.classLink RX3 67 "java/lang/IllegalArgumentException", .initialized "java/lang/IllegalArgumentException", .fieldLink RX3 10 "TapePrinter" "wire" "LTapePrinter$Wire;", .methodLink RX3 83 yX2_play, .instanceMethod yX2_play, .selects RX2 yX2_play yX2_play, .initialized RX2, .code yX2_play cX2_play 1 (some .int), .fieldLink RX2 27 "TapePrinter$Wire" "play" "I", .methodLink RX3 87 yX2_changePlay, .instanceMethod yX2_changePlay, .selects RX2 yX2_changePlay yX2_changePlay, .code yX2_changePlay cX2_changePlay 2 none] ++ wsX30 ++ wsX20 ++ (vx_atS RX3 71 "java/lang/IllegalArgumentException" ["java/lang/RuntimeException", "java/lang/Exception"]).filter goodWord)
def wsX3_setUnshift : List Cond := .code yX3_setUnshift cX3_setUnshift 3 (some .boolean) :: ([.fieldLink RX3 90 "TapePrinter" "unshifts" "Z"] ++ wsX30)
def wsX3_shiftsToLetters : List Cond := .code yX3_shiftsToLetters cX3_shiftsToLetters 2 (some .boolean) :: ([.fieldLink RX3 90 "TapePrinter" "unshifts" "Z"] ++ wsX30)
def wsX3_figuresBehind : List Cond := .code yX3_figuresBehind cX3_figuresBehind 3 (some .boolean) :: ([.methodLink RX3 217 yX3_shiftsToLetters, .instanceMethod yX3_shiftsToLetters, .selects RX3 yX3_shiftsToLetters yX3_shiftsToLetters, .initialized RX3, .code yX3_shiftsToLetters cX3_shiftsToLetters 2 (some .boolean), .fieldLink RX3 90 "TapePrinter" "unshifts" "Z"] ++ wsX30)
def wsX3_obey_r1 : List Cond := [Cond.fieldLink RX3 61 "TapePrinter" "figures" "Z", Cond.fieldLink RX3 19 "TapePrinter" "sheet" "LTapePrinter$Sheet;", Cond.fieldLink RX3 201 "TapePrinter" "lost" "I", Cond.fieldLink RX3 204 "TapePrinter" "bells" "I", Cond.methodLink RX3 52 yX3_characterOf, Cond.static yX3_characterOf, Cond.initialized RX3, Cond.code yX3_characterOf cX3_characterOf 3 (some .int), Cond.methodLink RX3 211 yX3_characterInLetters, Cond.static yX3_characterInLetters, Cond.code yX3_characterInLetters cX3_characterInLetters 1 (some .int), Cond.fieldLink RX3 214 "TapePrinter" "CHARACTERS" "[I", Cond.methodLink RX3 113 yX3_dependsOnShift, Cond.static yX3_dependsOnShift, Cond.code yX3_dependsOnShift cX3_dependsOnShift 2 (some .boolean), Cond.methodLink RX3 223 yX1_beginLine, Cond.instanceMethod yX1_beginLine, Cond.selects RX1 yX1_beginLine yX1_beginLine, Cond.initialized RX1, Cond.code yX1_beginLine cX1_beginLine 2 none, Cond.fieldLink RX1 17 "TapePrinter$Sheet" "used" "I", Cond.fieldLink RX1 24 "TapePrinter$Sheet" "first" "I", Cond.methodLink RX1 27 yX1_row, Cond.instanceMethod yX1_row]
def wsX3_obey_r2 : List Cond := [Cond.selects RX1 yX1_row yX1_row, Cond.code yX1_row cX1_row 3 (some (.object "TapePrinter$Row")), Cond.fieldLink RX1 11 "TapePrinter$Sheet" "rows" "[LTapePrinter$Row;", Cond.methodLink RX1 35 yX0_clear, Cond.instanceMethod yX0_clear, Cond.selects RX0 yX0_clear yX0_clear, Cond.initialized RX0, Cond.code yX0_clear cX0_clear 1 none, Cond.fieldLink RX0 13 "TapePrinter$Row" "size" "I", Cond.methodLink RX3 226 yX1_add, Cond.instanceMethod yX1_add, Cond.selects RX1 yX1_add yX1_add, Cond.code yX1_add cX1_add 3 (some .boolean), Cond.methodLink RX1 31 yX0_add, Cond.instanceMethod yX0_add, Cond.selects RX0 yX0_add yX0_add, Cond.code yX0_add cX0_add 2 (some .boolean), Cond.fieldLink RX0 7 "TapePrinter$Row" "values" "[I", Cond.methodLink RX3 164 yX3_figuresBehind, Cond.instanceMethod yX3_figuresBehind, Cond.selects RX3 yX3_figuresBehind yX3_figuresBehind, Cond.code yX3_figuresBehind cX3_figuresBehind 3 (some .boolean), Cond.methodLink RX3 217 yX3_shiftsToLetters, Cond.instanceMethod yX3_shiftsToLetters]
def wsX3_obey_r3 : List Cond := [Cond.selects RX3 yX3_shiftsToLetters yX3_shiftsToLetters, Cond.code yX3_shiftsToLetters cX3_shiftsToLetters 2 (some .boolean), Cond.fieldLink RX3 90 "TapePrinter" "unshifts" "Z"]
def wsX3_obey : List Cond := .code yX3_obey cX3_obey 3 none :: ((wsX3_obey_r1 ++ (wsX3_obey_r2 ++ wsX3_obey_r3)) ++ wsX30 ++ wsX10 ++ wsX00)
def wsX3_takeIn_r1 : List Cond := [Cond.fieldLink RX3 10 "TapePrinter" "wire" "LTapePrinter$Wire;", Cond.fieldLink RX3 158 "TapePrinter" "came" "I", Cond.fieldLink RX3 198 "TapePrinter" "misread" "I", Cond.methodLink RX3 161 yX2_readAs, Cond.instanceMethod yX2_readAs, Cond.selects RX2 yX2_readAs yX2_readAs, Cond.initialized RX2, Cond.code yX2_readAs cX2_readAs 6 (some .int), Cond.fieldLink RX2 20 "TapePrinter$Wire" "garbled" "LTapePrinter$Row;", Cond.fieldLink RX2 14 "TapePrinter$Wire" "late" "LTapePrinter$Row;", Cond.fieldLink RX2 27 "TapePrinter$Wire" "play" "I", Cond.methodLink RX2 31 yX0_at, Cond.instanceMethod yX0_at, Cond.selects RX0 yX0_at yX0_at, Cond.initialized RX0, Cond.code yX0_at cX0_at 2 (some .int), Cond.fieldLink RX0 7 "TapePrinter$Row" "values" "[I", Cond.methodLink RX0 17 yX0_has, Cond.instanceMethod yX0_has, Cond.selects RX0 yX0_has yX0_has, Cond.code yX0_has cX0_has 2 (some .boolean), Cond.fieldLink RX0 13 "TapePrinter$Row" "size" "I", Cond.methodLink RX3 220 yX3_obey, Cond.instanceMethod yX3_obey]
def wsX3_takeIn_r2 : List Cond := [Cond.selects RX3 yX3_obey yX3_obey, Cond.initialized RX3, Cond.code yX3_obey cX3_obey 3 none, Cond.fieldLink RX3 61 "TapePrinter" "figures" "Z", Cond.fieldLink RX3 19 "TapePrinter" "sheet" "LTapePrinter$Sheet;", Cond.fieldLink RX3 201 "TapePrinter" "lost" "I", Cond.fieldLink RX3 204 "TapePrinter" "bells" "I", Cond.methodLink RX3 52 yX3_characterOf, Cond.static yX3_characterOf, Cond.code yX3_characterOf cX3_characterOf 3 (some .int), Cond.methodLink RX3 211 yX3_characterInLetters, Cond.static yX3_characterInLetters, Cond.code yX3_characterInLetters cX3_characterInLetters 1 (some .int), Cond.fieldLink RX3 214 "TapePrinter" "CHARACTERS" "[I", Cond.methodLink RX3 113 yX3_dependsOnShift, Cond.static yX3_dependsOnShift, Cond.code yX3_dependsOnShift cX3_dependsOnShift 2 (some .boolean), Cond.methodLink RX3 223 yX1_beginLine, Cond.instanceMethod yX1_beginLine, Cond.selects RX1 yX1_beginLine yX1_beginLine, Cond.initialized RX1, Cond.code yX1_beginLine cX1_beginLine 2 none, Cond.fieldLink RX1 17 "TapePrinter$Sheet" "used" "I", Cond.fieldLink RX1 24 "TapePrinter$Sheet" "first" "I"]
def wsX3_takeIn_r3 : List Cond := [Cond.methodLink RX1 27 yX1_row, Cond.instanceMethod yX1_row, Cond.selects RX1 yX1_row yX1_row, Cond.code yX1_row cX1_row 3 (some (.object "TapePrinter$Row")), Cond.fieldLink RX1 11 "TapePrinter$Sheet" "rows" "[LTapePrinter$Row;", Cond.methodLink RX1 35 yX0_clear, Cond.instanceMethod yX0_clear, Cond.selects RX0 yX0_clear yX0_clear, Cond.code yX0_clear cX0_clear 1 none, Cond.methodLink RX3 226 yX1_add, Cond.instanceMethod yX1_add, Cond.selects RX1 yX1_add yX1_add, Cond.code yX1_add cX1_add 3 (some .boolean), Cond.methodLink RX1 31 yX0_add, Cond.instanceMethod yX0_add, Cond.selects RX0 yX0_add yX0_add, Cond.code yX0_add cX0_add 2 (some .boolean), Cond.methodLink RX3 164 yX3_figuresBehind, Cond.instanceMethod yX3_figuresBehind, Cond.selects RX3 yX3_figuresBehind yX3_figuresBehind, Cond.code yX3_figuresBehind cX3_figuresBehind 3 (some .boolean), Cond.methodLink RX3 217 yX3_shiftsToLetters, Cond.instanceMethod yX3_shiftsToLetters, Cond.selects RX3 yX3_shiftsToLetters yX3_shiftsToLetters]
def wsX3_takeIn_r4 : List Cond := [Cond.code yX3_shiftsToLetters cX3_shiftsToLetters 2 (some .boolean), Cond.fieldLink RX3 90 "TapePrinter" "unshifts" "Z"]
def wsX3_takeIn : List Cond := .code yX3_takeIn cX3_takeIn 3 (some .int) :: ((wsX3_takeIn_r1 ++ (wsX3_takeIn_r2 ++ (wsX3_takeIn_r3 ++ wsX3_takeIn_r4))) ++ wsX30 ++ wsX20 ++ wsX00 ++ wsX10)
def wsX3_receive_r1 : List Cond := [Cond.classLink RX3 36 "java/lang/IndexOutOfBoundsException", Cond.initialized "java/lang/IndexOutOfBoundsException", Cond.methodLink RX3 47 yX3_isCode, Cond.static yX3_isCode, Cond.initialized RX3, Cond.code yX3_isCode cX3_isCode 1 (some .boolean), Cond.methodLink RX3 93 yX3_takeIn, Cond.instanceMethod yX3_takeIn, Cond.selects RX3 yX3_takeIn yX3_takeIn, Cond.code yX3_takeIn cX3_takeIn 3 (some .int), Cond.fieldLink RX3 10 "TapePrinter" "wire" "LTapePrinter$Wire;", Cond.fieldLink RX3 158 "TapePrinter" "came" "I", Cond.fieldLink RX3 198 "TapePrinter" "misread" "I", Cond.methodLink RX3 161 yX2_readAs, Cond.instanceMethod yX2_readAs, Cond.selects RX2 yX2_readAs yX2_readAs, Cond.initialized RX2, Cond.code yX2_readAs cX2_readAs 6 (some .int), Cond.fieldLink RX2 20 "TapePrinter$Wire" "garbled" "LTapePrinter$Row;", Cond.fieldLink RX2 14 "TapePrinter$Wire" "late" "LTapePrinter$Row;", Cond.fieldLink RX2 27 "TapePrinter$Wire" "play" "I", Cond.methodLink RX2 31 yX0_at, Cond.instanceMethod yX0_at, Cond.selects RX0 yX0_at yX0_at]
def wsX3_receive_r2 : List Cond := [Cond.initialized RX0, Cond.code yX0_at cX0_at 2 (some .int), Cond.fieldLink RX0 7 "TapePrinter$Row" "values" "[I", Cond.methodLink RX0 17 yX0_has, Cond.instanceMethod yX0_has, Cond.selects RX0 yX0_has yX0_has, Cond.code yX0_has cX0_has 2 (some .boolean), Cond.fieldLink RX0 13 "TapePrinter$Row" "size" "I", Cond.methodLink RX3 220 yX3_obey, Cond.instanceMethod yX3_obey, Cond.selects RX3 yX3_obey yX3_obey, Cond.code yX3_obey cX3_obey 3 none, Cond.fieldLink RX3 61 "TapePrinter" "figures" "Z", Cond.fieldLink RX3 19 "TapePrinter" "sheet" "LTapePrinter$Sheet;", Cond.fieldLink RX3 201 "TapePrinter" "lost" "I", Cond.fieldLink RX3 204 "TapePrinter" "bells" "I", Cond.methodLink RX3 52 yX3_characterOf, Cond.static yX3_characterOf, Cond.code yX3_characterOf cX3_characterOf 3 (some .int), Cond.methodLink RX3 211 yX3_characterInLetters, Cond.static yX3_characterInLetters, Cond.code yX3_characterInLetters cX3_characterInLetters 1 (some .int), Cond.fieldLink RX3 214 "TapePrinter" "CHARACTERS" "[I", Cond.methodLink RX3 113 yX3_dependsOnShift]
def wsX3_receive_r3 : List Cond := [Cond.static yX3_dependsOnShift, Cond.code yX3_dependsOnShift cX3_dependsOnShift 2 (some .boolean), Cond.methodLink RX3 223 yX1_beginLine, Cond.instanceMethod yX1_beginLine, Cond.selects RX1 yX1_beginLine yX1_beginLine, Cond.initialized RX1, Cond.code yX1_beginLine cX1_beginLine 2 none, Cond.fieldLink RX1 17 "TapePrinter$Sheet" "used" "I", Cond.fieldLink RX1 24 "TapePrinter$Sheet" "first" "I", Cond.methodLink RX1 27 yX1_row, Cond.instanceMethod yX1_row, Cond.selects RX1 yX1_row yX1_row, Cond.code yX1_row cX1_row 3 (some (.object "TapePrinter$Row")), Cond.fieldLink RX1 11 "TapePrinter$Sheet" "rows" "[LTapePrinter$Row;", Cond.methodLink RX1 35 yX0_clear, Cond.instanceMethod yX0_clear, Cond.selects RX0 yX0_clear yX0_clear, Cond.code yX0_clear cX0_clear 1 none, Cond.methodLink RX3 226 yX1_add, Cond.instanceMethod yX1_add, Cond.selects RX1 yX1_add yX1_add, Cond.code yX1_add cX1_add 3 (some .boolean), Cond.methodLink RX1 31 yX0_add, Cond.instanceMethod yX0_add]
def wsX3_receive_r4 : List Cond := [Cond.selects RX0 yX0_add yX0_add, Cond.code yX0_add cX0_add 2 (some .boolean), Cond.methodLink RX3 164 yX3_figuresBehind, Cond.instanceMethod yX3_figuresBehind, Cond.selects RX3 yX3_figuresBehind yX3_figuresBehind, Cond.code yX3_figuresBehind cX3_figuresBehind 3 (some .boolean), Cond.methodLink RX3 217 yX3_shiftsToLetters, Cond.instanceMethod yX3_shiftsToLetters, Cond.selects RX3 yX3_shiftsToLetters yX3_shiftsToLetters, Cond.code yX3_shiftsToLetters cX3_shiftsToLetters 2 (some .boolean), Cond.fieldLink RX3 90 "TapePrinter" "unshifts" "Z"]
def wsX3_receive : List Cond := .code yX3_receive cX3_receive 2 (some .int) :: ((wsX3_receive_r1 ++ (wsX3_receive_r2 ++ (wsX3_receive_r3 ++ wsX3_receive_r4))) ++ wsX30 ++ wsX20 ++ wsX00 ++ wsX10 ++ (vx_atS RX3 40 "java/lang/IndexOutOfBoundsException" ["java/lang/RuntimeException", "java/lang/Exception"]).filter goodWord)
def wsX3_punch : List Cond := .code yX3_punch cX3_punch 2 (some .int) :: ([.classLink RX3 36 "java/lang/IndexOutOfBoundsException", .initialized "java/lang/IndexOutOfBoundsException", .classLink RX3 99 "java/lang/IllegalStateException", .initialized "java/lang/IllegalStateException", .fieldLink RX3 28 "TapePrinter" "strip" "LTapePrinter$Row;", .methodLink RX3 47 yX3_isCode, .static yX3_isCode, .initialized RX3, .code yX3_isCode cX3_isCode 1 (some .boolean), .methodLink RX3 96 yX0_room, .instanceMethod yX0_room, .selects RX0 yX0_room yX0_room, .initialized RX0, .code yX0_room cX0_room 1 (some .int), .fieldLink RX0 7 "TapePrinter$Row" "values" "[I", .fieldLink RX0 13 "TapePrinter$Row" "size" "I", .methodLink RX3 104 yX0_add, .instanceMethod yX0_add, .selects RX0 yX0_add yX0_add, .code yX0_add cX0_add 2 (some .boolean), .methodLink RX3 107 yX0_size, .instanceMethod yX0_size, .selects RX0 yX0_size yX0_size, .code yX0_size cX0_size 1 (some .int)] ++ wsX30 ++ wsX00 ++ (vx_atS RX3 40 "java/lang/IndexOutOfBoundsException" ["java/lang/RuntimeException", "java/lang/Exception"]).filter goodWord ++ (vx_atS RX3 103 "java/lang/IllegalStateException" ["java/lang/RuntimeException", "java/lang/Exception"]).filter goodWord)
def wsX3_isCharacter : List Cond := .code yX3_isCharacter cX3_isCharacter 1 (some .boolean) :: ([])
def wsX3_isFigure : List Cond := .code yX3_isFigure cX3_isFigure 1 (some .boolean) :: ([])
def wsX3_codeOf : List Cond := .code yX3_codeOf cX3_codeOf 1 (some .int) :: ([.fieldLink RX3 207 "TapePrinter" "CODES" "[I"])
def wsX3_figuresAhead_r1 : List Cond := [Cond.fieldLink RX3 28 "TapePrinter" "strip" "LTapePrinter$Row;", Cond.methodLink RX3 107 yX0_size, Cond.instanceMethod yX0_size, Cond.selects RX0 yX0_size yX0_size, Cond.initialized RX0, Cond.code yX0_size cX0_size 1 (some .int), Cond.fieldLink RX0 13 "TapePrinter$Row" "size" "I", Cond.methodLink RX3 127 yX0_at, Cond.instanceMethod yX0_at, Cond.selects RX0 yX0_at yX0_at, Cond.code yX0_at cX0_at 2 (some .int), Cond.fieldLink RX0 7 "TapePrinter$Row" "values" "[I", Cond.methodLink RX0 17 yX0_has, Cond.instanceMethod yX0_has, Cond.selects RX0 yX0_has yX0_has, Cond.code yX0_has cX0_has 2 (some .boolean), Cond.methodLink RX3 164 yX3_figuresBehind, Cond.instanceMethod yX3_figuresBehind, Cond.selects RX3 yX3_figuresBehind yX3_figuresBehind, Cond.initialized RX3, Cond.code yX3_figuresBehind cX3_figuresBehind 3 (some .boolean), Cond.methodLink RX3 217 yX3_shiftsToLetters, Cond.instanceMethod yX3_shiftsToLetters, Cond.selects RX3 yX3_shiftsToLetters yX3_shiftsToLetters]
def wsX3_figuresAhead_r2 : List Cond := [Cond.code yX3_shiftsToLetters cX3_shiftsToLetters 2 (some .boolean), Cond.fieldLink RX3 90 "TapePrinter" "unshifts" "Z"]
def wsX3_figuresAhead : List Cond := .code yX3_figuresAhead cX3_figuresAhead 4 (some .boolean) :: ((wsX3_figuresAhead_r1 ++ wsX3_figuresAhead_r2) ++ wsX30 ++ wsX00)
def wsX3_figuresAtEnd_r1 : List Cond := [Cond.fieldLink RX3 28 "TapePrinter" "strip" "LTapePrinter$Row;", Cond.methodLink RX3 107 yX0_size, Cond.instanceMethod yX0_size, Cond.selects RX0 yX0_size yX0_size, Cond.initialized RX0, Cond.code yX0_size cX0_size 1 (some .int), Cond.fieldLink RX0 13 "TapePrinter$Row" "size" "I", Cond.methodLink RX3 174 yX3_figuresAhead, Cond.instanceMethod yX3_figuresAhead, Cond.selects RX3 yX3_figuresAhead yX3_figuresAhead, Cond.initialized RX3, Cond.code yX3_figuresAhead cX3_figuresAhead 4 (some .boolean), Cond.methodLink RX3 127 yX0_at, Cond.instanceMethod yX0_at, Cond.selects RX0 yX0_at yX0_at, Cond.code yX0_at cX0_at 2 (some .int), Cond.fieldLink RX0 7 "TapePrinter$Row" "values" "[I", Cond.methodLink RX0 17 yX0_has, Cond.instanceMethod yX0_has, Cond.selects RX0 yX0_has yX0_has, Cond.code yX0_has cX0_has 2 (some .boolean), Cond.methodLink RX3 164 yX3_figuresBehind, Cond.instanceMethod yX3_figuresBehind, Cond.selects RX3 yX3_figuresBehind yX3_figuresBehind]
def wsX3_figuresAtEnd_r2 : List Cond := [Cond.code yX3_figuresBehind cX3_figuresBehind 3 (some .boolean), Cond.methodLink RX3 217 yX3_shiftsToLetters, Cond.instanceMethod yX3_shiftsToLetters, Cond.selects RX3 yX3_shiftsToLetters yX3_shiftsToLetters, Cond.code yX3_shiftsToLetters cX3_shiftsToLetters 2 (some .boolean), Cond.fieldLink RX3 90 "TapePrinter" "unshifts" "Z"]
def wsX3_figuresAtEnd : List Cond := .code yX3_figuresAtEnd cX3_figuresAtEnd 1 (some .boolean) :: ((wsX3_figuresAtEnd_r1 ++ wsX3_figuresAtEnd_r2) ++ wsX30 ++ wsX00)
def wsX3_type_r1 : List Cond := [Cond.classLink RX3 36 "java/lang/IndexOutOfBoundsException", Cond.initialized "java/lang/IndexOutOfBoundsException", Cond.classLink RX3 99 "java/lang/IllegalStateException", Cond.initialized "java/lang/IllegalStateException", Cond.fieldLink RX3 28 "TapePrinter" "strip" "LTapePrinter$Row;", Cond.methodLink RX3 32 yX3_isCharacter, Cond.static yX3_isCharacter, Cond.initialized RX3, Cond.code yX3_isCharacter cX3_isCharacter 1 (some .boolean), Cond.methodLink RX3 110 yX3_isFigure, Cond.static yX3_isFigure, Cond.code yX3_isFigure cX3_isFigure 1 (some .boolean), Cond.methodLink RX3 43 yX3_codeOf, Cond.static yX3_codeOf, Cond.code yX3_codeOf cX3_codeOf 1 (some .int), Cond.fieldLink RX3 207 "TapePrinter" "CODES" "[I", Cond.methodLink RX3 113 yX3_dependsOnShift, Cond.static yX3_dependsOnShift, Cond.code yX3_dependsOnShift cX3_dependsOnShift 2 (some .boolean), Cond.methodLink RX3 211 yX3_characterInLetters, Cond.static yX3_characterInLetters, Cond.code yX3_characterInLetters cX3_characterInLetters 1 (some .int), Cond.fieldLink RX3 214 "TapePrinter" "CHARACTERS" "[I", Cond.methodLink RX3 116 yX3_figuresAtEnd]
def wsX3_type_r2 : List Cond := [Cond.instanceMethod yX3_figuresAtEnd, Cond.selects RX3 yX3_figuresAtEnd yX3_figuresAtEnd, Cond.code yX3_figuresAtEnd cX3_figuresAtEnd 1 (some .boolean), Cond.methodLink RX3 107 yX0_size, Cond.instanceMethod yX0_size, Cond.selects RX0 yX0_size yX0_size, Cond.initialized RX0, Cond.code yX0_size cX0_size 1 (some .int), Cond.fieldLink RX0 13 "TapePrinter$Row" "size" "I", Cond.methodLink RX3 174 yX3_figuresAhead, Cond.instanceMethod yX3_figuresAhead, Cond.selects RX3 yX3_figuresAhead yX3_figuresAhead, Cond.code yX3_figuresAhead cX3_figuresAhead 4 (some .boolean), Cond.methodLink RX3 127 yX0_at, Cond.instanceMethod yX0_at, Cond.selects RX0 yX0_at yX0_at, Cond.code yX0_at cX0_at 2 (some .int), Cond.fieldLink RX0 7 "TapePrinter$Row" "values" "[I", Cond.methodLink RX0 17 yX0_has, Cond.instanceMethod yX0_has, Cond.selects RX0 yX0_has yX0_has, Cond.code yX0_has cX0_has 2 (some .boolean), Cond.methodLink RX3 164 yX3_figuresBehind, Cond.instanceMethod yX3_figuresBehind]
def wsX3_type_r3 : List Cond := [Cond.selects RX3 yX3_figuresBehind yX3_figuresBehind, Cond.code yX3_figuresBehind cX3_figuresBehind 3 (some .boolean), Cond.methodLink RX3 217 yX3_shiftsToLetters, Cond.instanceMethod yX3_shiftsToLetters, Cond.selects RX3 yX3_shiftsToLetters yX3_shiftsToLetters, Cond.code yX3_shiftsToLetters cX3_shiftsToLetters 2 (some .boolean), Cond.fieldLink RX3 90 "TapePrinter" "unshifts" "Z", Cond.methodLink RX3 96 yX0_room, Cond.instanceMethod yX0_room, Cond.selects RX0 yX0_room yX0_room, Cond.code yX0_room cX0_room 1 (some .int), Cond.methodLink RX3 104 yX0_add, Cond.instanceMethod yX0_add, Cond.selects RX0 yX0_add yX0_add, Cond.code yX0_add cX0_add 2 (some .boolean)]
def wsX3_type : List Cond := .code yX3_type cX3_type 5 (some .int) :: ((wsX3_type_r1 ++ (wsX3_type_r2 ++ wsX3_type_r3)) ++ wsX30 ++ wsX00 ++ (vx_atS RX3 40 "java/lang/IndexOutOfBoundsException" ["java/lang/RuntimeException", "java/lang/Exception"]).filter goodWord ++ (vx_atS RX3 103 "java/lang/IllegalStateException" ["java/lang/RuntimeException", "java/lang/Exception"]).filter goodWord)
def wsX3_rub : List Cond := .code yX3_rub cX3_rub 3 (some .int) :: ([.classLink RX3 36 "java/lang/IndexOutOfBoundsException", .initialized "java/lang/IndexOutOfBoundsException", .fieldLink RX3 28 "TapePrinter" "strip" "LTapePrinter$Row;", .methodLink RX3 122 yX0_has, .instanceMethod yX0_has, .selects RX0 yX0_has yX0_has, .initialized RX0, .code yX0_has cX0_has 2 (some .boolean), .fieldLink RX0 13 "TapePrinter$Row" "size" "I", .fieldLink RX0 7 "TapePrinter$Row" "values" "[I", .methodLink RX3 127 yX0_at, .instanceMethod yX0_at, .selects RX0 yX0_at yX0_at, .code yX0_at cX0_at 2 (some .int), .methodLink RX0 17 yX0_has, .methodLink RX3 130 yX0_change, .instanceMethod yX0_change, .selects RX0 yX0_change yX0_change, .code yX0_change cX0_change 3 none] ++ wsX30 ++ wsX00 ++ (vx_atS RX3 40 "java/lang/IndexOutOfBoundsException" ["java/lang/RuntimeException", "java/lang/Exception"]).filter goodWord)
def wsX3_run_r1 : List Cond := [Cond.classLink RX3 67 "java/lang/IllegalArgumentException", Cond.initialized "java/lang/IllegalArgumentException", Cond.fieldLink RX3 28 "TapePrinter" "strip" "LTapePrinter$Row;", Cond.fieldLink RX3 135 "TapePrinter" "reader" "I", Cond.methodLink RX3 139 Lib.Math.min.name, Cond.static Lib.Math.min.name, Cond.initialized "java/lang/Math", Cond.code Lib.Math.min.name Lib.Math.min.code 2 (some .int), Cond.methodLink RX3 107 yX0_size, Cond.instanceMethod yX0_size, Cond.selects RX0 yX0_size yX0_size, Cond.initialized RX0, Cond.code yX0_size cX0_size 1 (some .int), Cond.fieldLink RX0 13 "TapePrinter$Row" "size" "I", Cond.methodLink RX3 127 yX0_at, Cond.instanceMethod yX0_at, Cond.selects RX0 yX0_at yX0_at, Cond.code yX0_at cX0_at 2 (some .int), Cond.fieldLink RX0 7 "TapePrinter$Row" "values" "[I", Cond.methodLink RX0 17 yX0_has, Cond.instanceMethod yX0_has, Cond.selects RX0 yX0_has yX0_has, Cond.code yX0_has cX0_has 2 (some .boolean), Cond.methodLink RX3 93 yX3_takeIn]
def wsX3_run_r2 : List Cond := [Cond.instanceMethod yX3_takeIn, Cond.selects RX3 yX3_takeIn yX3_takeIn, Cond.initialized RX3, Cond.code yX3_takeIn cX3_takeIn 3 (some .int), Cond.fieldLink RX3 10 "TapePrinter" "wire" "LTapePrinter$Wire;", Cond.fieldLink RX3 158 "TapePrinter" "came" "I", Cond.fieldLink RX3 198 "TapePrinter" "misread" "I", Cond.methodLink RX3 161 yX2_readAs, Cond.instanceMethod yX2_readAs, Cond.selects RX2 yX2_readAs yX2_readAs, Cond.initialized RX2, Cond.code yX2_readAs cX2_readAs 6 (some .int), Cond.fieldLink RX2 20 "TapePrinter$Wire" "garbled" "LTapePrinter$Row;", Cond.fieldLink RX2 14 "TapePrinter$Wire" "late" "LTapePrinter$Row;", Cond.fieldLink RX2 27 "TapePrinter$Wire" "play" "I", Cond.methodLink RX2 31 yX0_at, Cond.methodLink RX3 220 yX3_obey, Cond.instanceMethod yX3_obey, Cond.selects RX3 yX3_obey yX3_obey, Cond.code yX3_obey cX3_obey 3 none, Cond.fieldLink RX3 61 "TapePrinter" "figures" "Z", Cond.fieldLink RX3 19 "TapePrinter" "sheet" "LTapePrinter$Sheet;", Cond.fieldLink RX3 201 "TapePrinter" "lost" "I", Cond.fieldLink RX3 204 "TapePrinter" "bells" "I"]
def wsX3_run_r3 : List Cond := [Cond.methodLink RX3 52 yX3_characterOf, Cond.static yX3_characterOf, Cond.code yX3_characterOf cX3_characterOf 3 (some .int), Cond.methodLink RX3 211 yX3_characterInLetters, Cond.static yX3_characterInLetters, Cond.code yX3_characterInLetters cX3_characterInLetters 1 (some .int), Cond.fieldLink RX3 214 "TapePrinter" "CHARACTERS" "[I", Cond.methodLink RX3 113 yX3_dependsOnShift, Cond.static yX3_dependsOnShift, Cond.code yX3_dependsOnShift cX3_dependsOnShift 2 (some .boolean), Cond.methodLink RX3 223 yX1_beginLine, Cond.instanceMethod yX1_beginLine, Cond.selects RX1 yX1_beginLine yX1_beginLine, Cond.initialized RX1, Cond.code yX1_beginLine cX1_beginLine 2 none, Cond.fieldLink RX1 17 "TapePrinter$Sheet" "used" "I", Cond.fieldLink RX1 24 "TapePrinter$Sheet" "first" "I", Cond.methodLink RX1 27 yX1_row, Cond.instanceMethod yX1_row, Cond.selects RX1 yX1_row yX1_row, Cond.code yX1_row cX1_row 3 (some (.object "TapePrinter$Row")), Cond.fieldLink RX1 11 "TapePrinter$Sheet" "rows" "[LTapePrinter$Row;", Cond.methodLink RX1 35 yX0_clear, Cond.instanceMethod yX0_clear]
def wsX3_run_r4 : List Cond := [Cond.selects RX0 yX0_clear yX0_clear, Cond.code yX0_clear cX0_clear 1 none, Cond.methodLink RX3 226 yX1_add, Cond.instanceMethod yX1_add, Cond.selects RX1 yX1_add yX1_add, Cond.code yX1_add cX1_add 3 (some .boolean), Cond.methodLink RX1 31 yX0_add, Cond.instanceMethod yX0_add, Cond.selects RX0 yX0_add yX0_add, Cond.code yX0_add cX0_add 2 (some .boolean), Cond.methodLink RX3 164 yX3_figuresBehind, Cond.instanceMethod yX3_figuresBehind, Cond.selects RX3 yX3_figuresBehind yX3_figuresBehind, Cond.code yX3_figuresBehind cX3_figuresBehind 3 (some .boolean), Cond.methodLink RX3 217 yX3_shiftsToLetters, Cond.instanceMethod yX3_shiftsToLetters, Cond.selects RX3 yX3_shiftsToLetters yX3_shiftsToLetters, Cond.code yX3_shiftsToLetters cX3_shiftsToLetters 2 (some .boolean), Cond.fieldLink RX3 90 "TapePrinter" "unshifts" "Z"]
def wsX3_run : List Cond := .code yX3_run cX3_run 4 (some .int) :: ((wsX3_run_r1 ++ (wsX3_run_r2 ++ (wsX3_run_r3 ++ wsX3_run_r4))) ++ wsX30 ++ wsX00 ++ wsX20 ++ wsX10 ++ (vx_atS RX3 71 "java/lang/IllegalArgumentException" ["java/lang/RuntimeException", "java/lang/Exception"]).filter goodWord)
def wsX3_wind : List Cond := .code yX3_wind cX3_wind 3 (some .int) :: ([.classLink RX3 36 "java/lang/IndexOutOfBoundsException", .initialized "java/lang/IndexOutOfBoundsException", .fieldLink RX3 28 "TapePrinter" "strip" "LTapePrinter$Row;", .fieldLink RX3 135 "TapePrinter" "reader" "I", .methodLink RX3 107 yX0_size, .instanceMethod yX0_size, .selects RX0 yX0_size yX0_size, .initialized RX0, .code yX0_size cX0_size 1 (some .int), .fieldLink RX0 13 "TapePrinter$Row" "size" "I"] ++ wsX30 ++ wsX00 ++ (vx_atS RX3 40 "java/lang/IndexOutOfBoundsException" ["java/lang/RuntimeException", "java/lang/Exception"]).filter goodWord)
def wsX3_tape : List Cond := .code yX3_tape cX3_tape 2 (some .int) :: ([.classLink RX3 36 "java/lang/IndexOutOfBoundsException", .initialized "java/lang/IndexOutOfBoundsException", .fieldLink RX3 28 "TapePrinter" "strip" "LTapePrinter$Row;", .methodLink RX3 122 yX0_has, .instanceMethod yX0_has, .selects RX0 yX0_has yX0_has, .initialized RX0, .code yX0_has cX0_has 2 (some .boolean), .fieldLink RX0 13 "TapePrinter$Row" "size" "I", .fieldLink RX0 7 "TapePrinter$Row" "values" "[I", .methodLink RX3 127 yX0_at, .instanceMethod yX0_at, .selects RX0 yX0_at yX0_at, .code yX0_at cX0_at 2 (some .int), .methodLink RX0 17 yX0_has] ++ wsX30 ++ wsX00 ++ (vx_atS RX3 40 "java/lang/IndexOutOfBoundsException" ["java/lang/RuntimeException", "java/lang/Exception"]).filter goodWord)
def wsX3_page : List Cond := .code yX3_page cX3_page 4 (some .int) :: ([.classLink RX3 36 "java/lang/IndexOutOfBoundsException", .initialized "java/lang/IndexOutOfBoundsException", .fieldLink RX3 19 "TapePrinter" "sheet" "LTapePrinter$Sheet;", .methodLink RX3 145 yX1_row, .instanceMethod yX1_row, .selects RX1 yX1_row yX1_row, .initialized RX1, .code yX1_row cX1_row 3 (some (.object "TapePrinter$Row")), .fieldLink RX1 17 "TapePrinter$Sheet" "used" "I", .fieldLink RX1 24 "TapePrinter$Sheet" "first" "I", .fieldLink RX1 11 "TapePrinter$Sheet" "rows" "[LTapePrinter$Row;", .methodLink RX3 122 yX0_has, .instanceMethod yX0_has, .selects RX0 yX0_has yX0_has, .initialized RX0, .code yX0_has cX0_has 2 (some .boolean), .fieldLink RX0 13 "TapePrinter$Row" "size" "I", .fieldLink RX0 7 "TapePrinter$Row" "values" "[I", .methodLink RX3 127 yX0_at, .instanceMethod yX0_at, .selects RX0 yX0_at yX0_at, .code yX0_at cX0_at 2 (some .int), .methodLink RX0 17 yX0_has] ++ wsX30 ++ wsX10 ++ wsX00 ++ (vx_atS RX3 40 "java/lang/IndexOutOfBoundsException" ["java/lang/RuntimeException", "java/lang/Exception"]).filter goodWord)
def wsX3_length : List Cond := .code yX3_length cX3_length 3 (some .int) :: ([.classLink RX3 36 "java/lang/IndexOutOfBoundsException", .initialized "java/lang/IndexOutOfBoundsException", .fieldLink RX3 19 "TapePrinter" "sheet" "LTapePrinter$Sheet;", .methodLink RX3 145 yX1_row, .instanceMethod yX1_row, .selects RX1 yX1_row yX1_row, .initialized RX1, .code yX1_row cX1_row 3 (some (.object "TapePrinter$Row")), .fieldLink RX1 17 "TapePrinter$Sheet" "used" "I", .fieldLink RX1 24 "TapePrinter$Sheet" "first" "I", .fieldLink RX1 11 "TapePrinter$Sheet" "rows" "[LTapePrinter$Row;", .methodLink RX3 107 yX0_size, .instanceMethod yX0_size, .selects RX0 yX0_size yX0_size, .initialized RX0, .code yX0_size cX0_size 1 (some .int), .fieldLink RX0 13 "TapePrinter$Row" "size" "I"] ++ wsX30 ++ wsX10 ++ wsX00 ++ (vx_atS RX3 40 "java/lang/IndexOutOfBoundsException" ["java/lang/RuntimeException", "java/lang/Exception"]).filter goodWord)
def wsX3_counted_r1 : List Cond := [Cond.fieldLink RX3 19 "TapePrinter" "sheet" "LTapePrinter$Sheet;", Cond.fieldLink RX3 61 "TapePrinter" "figures" "Z", Cond.fieldLink RX3 10 "TapePrinter" "wire" "LTapePrinter$Wire;", Cond.fieldLink RX3 28 "TapePrinter" "strip" "LTapePrinter$Row;", Cond.fieldLink RX3 135 "TapePrinter" "reader" "I", Cond.fieldLink RX3 158 "TapePrinter" "came" "I", Cond.fieldLink RX3 198 "TapePrinter" "misread" "I", Cond.fieldLink RX3 201 "TapePrinter" "lost" "I", Cond.fieldLink RX3 90 "TapePrinter" "unshifts" "Z", Cond.fieldLink RX3 204 "TapePrinter" "bells" "I", Cond.methodLink RX3 177 yX1_lines, Cond.instanceMethod yX1_lines, Cond.selects RX1 yX1_lines yX1_lines, Cond.initialized RX1, Cond.code yX1_lines cX1_lines 1 (some .int), Cond.fieldLink RX1 17 "TapePrinter$Sheet" "used" "I", Cond.methodLink RX3 180 yX1_characters, Cond.instanceMethod yX1_characters, Cond.selects RX1 yX1_characters yX1_characters, Cond.code yX1_characters cX1_characters 4 (some .int), Cond.methodLink RX1 27 yX1_row, Cond.instanceMethod yX1_row, Cond.selects RX1 yX1_row yX1_row, Cond.code yX1_row cX1_row 3 (some (.object "TapePrinter$Row"))]
def wsX3_counted_r2 : List Cond := [Cond.fieldLink RX1 24 "TapePrinter$Sheet" "first" "I", Cond.fieldLink RX1 11 "TapePrinter$Sheet" "rows" "[LTapePrinter$Row;", Cond.methodLink RX1 38 yX0_size, Cond.instanceMethod yX0_size, Cond.selects RX0 yX0_size yX0_size, Cond.initialized RX0, Cond.code yX0_size cX0_size 1 (some .int), Cond.fieldLink RX0 13 "TapePrinter$Row" "size" "I", Cond.methodLink RX3 83 yX2_play, Cond.instanceMethod yX2_play, Cond.selects RX2 yX2_play yX2_play, Cond.initialized RX2, Cond.code yX2_play cX2_play 1 (some .int), Cond.fieldLink RX2 27 "TapePrinter$Wire" "play" "I", Cond.methodLink RX3 107 yX0_size]
def wsX3_counted : List Cond := .code yX3_counted cX3_counted 2 (some .int) :: ((wsX3_counted_r1 ++ wsX3_counted_r2) ++ wsX30 ++ wsX10 ++ wsX00 ++ wsX20)
def wsX3_count_r1 : List Cond := [Cond.classLink RX3 36 "java/lang/IndexOutOfBoundsException", Cond.initialized "java/lang/IndexOutOfBoundsException", Cond.methodLink RX3 155 yX3_counted, Cond.instanceMethod yX3_counted, Cond.selects RX3 yX3_counted yX3_counted, Cond.initialized RX3, Cond.code yX3_counted cX3_counted 2 (some .int), Cond.fieldLink RX3 19 "TapePrinter" "sheet" "LTapePrinter$Sheet;", Cond.fieldLink RX3 61 "TapePrinter" "figures" "Z", Cond.fieldLink RX3 10 "TapePrinter" "wire" "LTapePrinter$Wire;", Cond.fieldLink RX3 28 "TapePrinter" "strip" "LTapePrinter$Row;", Cond.fieldLink RX3 135 "TapePrinter" "reader" "I", Cond.fieldLink RX3 158 "TapePrinter" "came" "I", Cond.fieldLink RX3 198 "TapePrinter" "misread" "I", Cond.fieldLink RX3 201 "TapePrinter" "lost" "I", Cond.fieldLink RX3 90 "TapePrinter" "unshifts" "Z", Cond.fieldLink RX3 204 "TapePrinter" "bells" "I", Cond.methodLink RX3 177 yX1_lines, Cond.instanceMethod yX1_lines, Cond.selects RX1 yX1_lines yX1_lines, Cond.initialized RX1, Cond.code yX1_lines cX1_lines 1 (some .int), Cond.fieldLink RX1 17 "TapePrinter$Sheet" "used" "I", Cond.methodLink RX3 180 yX1_characters]
def wsX3_count_r2 : List Cond := [Cond.instanceMethod yX1_characters, Cond.selects RX1 yX1_characters yX1_characters, Cond.code yX1_characters cX1_characters 4 (some .int), Cond.methodLink RX1 27 yX1_row, Cond.instanceMethod yX1_row, Cond.selects RX1 yX1_row yX1_row, Cond.code yX1_row cX1_row 3 (some (.object "TapePrinter$Row")), Cond.fieldLink RX1 24 "TapePrinter$Sheet" "first" "I", Cond.fieldLink RX1 11 "TapePrinter$Sheet" "rows" "[LTapePrinter$Row;", Cond.methodLink RX1 38 yX0_size, Cond.instanceMethod yX0_size, Cond.selects RX0 yX0_size yX0_size, Cond.initialized RX0, Cond.code yX0_size cX0_size 1 (some .int), Cond.fieldLink RX0 13 "TapePrinter$Row" "size" "I", Cond.methodLink RX3 83 yX2_play, Cond.instanceMethod yX2_play, Cond.selects RX2 yX2_play yX2_play, Cond.initialized RX2, Cond.code yX2_play cX2_play 1 (some .int), Cond.fieldLink RX2 27 "TapePrinter$Wire" "play" "I", Cond.methodLink RX3 107 yX0_size]
def wsX3_count : List Cond := .code yX3_count cX3_count 2 (some .int) :: ((wsX3_count_r1 ++ wsX3_count_r2) ++ wsX30 ++ wsX10 ++ wsX00 ++ wsX20 ++ (vx_atS RX3 40 "java/lang/IndexOutOfBoundsException" ["java/lang/RuntimeException", "java/lang/Exception"]).filter goodWord)
def wsX3_would_r1 : List Cond := [Cond.classLink RX3 36 "java/lang/IndexOutOfBoundsException", Cond.initialized "java/lang/IndexOutOfBoundsException", Cond.fieldLink RX3 10 "TapePrinter" "wire" "LTapePrinter$Wire;", Cond.fieldLink RX3 158 "TapePrinter" "came" "I", Cond.methodLink RX3 47 yX3_isCode, Cond.static yX3_isCode, Cond.initialized RX3, Cond.code yX3_isCode cX3_isCode 1 (some .boolean), Cond.methodLink RX3 161 yX2_readAs, Cond.instanceMethod yX2_readAs, Cond.selects RX2 yX2_readAs yX2_readAs, Cond.initialized RX2, Cond.code yX2_readAs cX2_readAs 6 (some .int), Cond.fieldLink RX2 20 "TapePrinter$Wire" "garbled" "LTapePrinter$Row;", Cond.fieldLink RX2 14 "TapePrinter$Wire" "late" "LTapePrinter$Row;", Cond.fieldLink RX2 27 "TapePrinter$Wire" "play" "I", Cond.methodLink RX2 31 yX0_at, Cond.instanceMethod yX0_at, Cond.selects RX0 yX0_at yX0_at, Cond.initialized RX0, Cond.code yX0_at cX0_at 2 (some .int), Cond.fieldLink RX0 7 "TapePrinter$Row" "values" "[I", Cond.methodLink RX0 17 yX0_has, Cond.instanceMethod yX0_has]
def wsX3_would_r2 : List Cond := [Cond.selects RX0 yX0_has yX0_has, Cond.code yX0_has cX0_has 2 (some .boolean), Cond.fieldLink RX0 13 "TapePrinter$Row" "size" "I"]
def wsX3_would : List Cond := .code yX3_would cX3_would 2 (some .int) :: ((wsX3_would_r1 ++ wsX3_would_r2) ++ wsX30 ++ wsX20 ++ wsX00 ++ (vx_atS RX3 40 "java/lang/IndexOutOfBoundsException" ["java/lang/RuntimeException", "java/lang/Exception"]).filter goodWord)
def wsX3_wrong_r1 : List Cond := [Cond.fieldLink RX3 135 "TapePrinter" "reader" "I", Cond.fieldLink RX3 28 "TapePrinter" "strip" "LTapePrinter$Row;", Cond.fieldLink RX3 10 "TapePrinter" "wire" "LTapePrinter$Wire;", Cond.fieldLink RX3 158 "TapePrinter" "came" "I", Cond.methodLink RX3 107 yX0_size, Cond.instanceMethod yX0_size, Cond.selects RX0 yX0_size yX0_size, Cond.initialized RX0, Cond.code yX0_size cX0_size 1 (some .int), Cond.fieldLink RX0 13 "TapePrinter$Row" "size" "I", Cond.methodLink RX3 127 yX0_at, Cond.instanceMethod yX0_at, Cond.selects RX0 yX0_at yX0_at, Cond.code yX0_at cX0_at 2 (some .int), Cond.fieldLink RX0 7 "TapePrinter$Row" "values" "[I", Cond.methodLink RX0 17 yX0_has, Cond.instanceMethod yX0_has, Cond.selects RX0 yX0_has yX0_has, Cond.code yX0_has cX0_has 2 (some .boolean), Cond.methodLink RX3 161 yX2_readAs, Cond.instanceMethod yX2_readAs, Cond.selects RX2 yX2_readAs yX2_readAs, Cond.initialized RX2, Cond.code yX2_readAs cX2_readAs 6 (some .int)]
def wsX3_wrong_r2 : List Cond := [Cond.fieldLink RX2 20 "TapePrinter$Wire" "garbled" "LTapePrinter$Row;", Cond.fieldLink RX2 14 "TapePrinter$Wire" "late" "LTapePrinter$Row;", Cond.fieldLink RX2 27 "TapePrinter$Wire" "play" "I", Cond.methodLink RX2 31 yX0_at]
def wsX3_wrong : List Cond := .code yX3_wrong cX3_wrong 4 (some .int) :: ((wsX3_wrong_r1 ++ wsX3_wrong_r2) ++ wsX30 ++ wsX00 ++ wsX20)
def wsX3_isShift : List Cond := .code yX3_isShift cX3_isShift 1 (some .boolean) :: ([])
def wsX3_servesBehind_r1 : List Cond := [Cond.fieldLink RX3 28 "TapePrinter" "strip" "LTapePrinter$Row;", Cond.methodLink RX3 107 yX0_size, Cond.instanceMethod yX0_size, Cond.selects RX0 yX0_size yX0_size, Cond.initialized RX0, Cond.code yX0_size cX0_size 1 (some .int), Cond.fieldLink RX0 13 "TapePrinter$Row" "size" "I", Cond.methodLink RX3 127 yX0_at, Cond.instanceMethod yX0_at, Cond.selects RX0 yX0_at yX0_at, Cond.code yX0_at cX0_at 2 (some .int), Cond.fieldLink RX0 7 "TapePrinter$Row" "values" "[I", Cond.methodLink RX0 17 yX0_has, Cond.instanceMethod yX0_has, Cond.selects RX0 yX0_has yX0_has, Cond.code yX0_has cX0_has 2 (some .boolean), Cond.methodLink RX3 113 yX3_dependsOnShift, Cond.static yX3_dependsOnShift, Cond.initialized RX3, Cond.code yX3_dependsOnShift cX3_dependsOnShift 2 (some .boolean), Cond.methodLink RX3 211 yX3_characterInLetters, Cond.static yX3_characterInLetters, Cond.code yX3_characterInLetters cX3_characterInLetters 1 (some .int), Cond.fieldLink RX3 214 "TapePrinter" "CHARACTERS" "[I"]
def wsX3_servesBehind_r2 : List Cond := [Cond.methodLink RX3 217 yX3_shiftsToLetters, Cond.instanceMethod yX3_shiftsToLetters, Cond.selects RX3 yX3_shiftsToLetters yX3_shiftsToLetters, Cond.code yX3_shiftsToLetters cX3_shiftsToLetters 2 (some .boolean), Cond.fieldLink RX3 90 "TapePrinter" "unshifts" "Z"]
def wsX3_servesBehind : List Cond := .code yX3_servesBehind cX3_servesBehind 4 (some .boolean) :: ((wsX3_servesBehind_r1 ++ wsX3_servesBehind_r2) ++ wsX30 ++ wsX00)
def wsX3_idle_r1 : List Cond := [Cond.fieldLink RX3 28 "TapePrinter" "strip" "LTapePrinter$Row;", Cond.methodLink RX3 107 yX0_size, Cond.instanceMethod yX0_size, Cond.selects RX0 yX0_size yX0_size, Cond.initialized RX0, Cond.code yX0_size cX0_size 1 (some .int), Cond.fieldLink RX0 13 "TapePrinter$Row" "size" "I", Cond.methodLink RX3 127 yX0_at, Cond.instanceMethod yX0_at, Cond.selects RX0 yX0_at yX0_at, Cond.code yX0_at cX0_at 2 (some .int), Cond.fieldLink RX0 7 "TapePrinter$Row" "values" "[I", Cond.methodLink RX0 17 yX0_has, Cond.instanceMethod yX0_has, Cond.selects RX0 yX0_has yX0_has, Cond.code yX0_has cX0_has 2 (some .boolean), Cond.methodLink RX3 164 yX3_figuresBehind, Cond.instanceMethod yX3_figuresBehind, Cond.selects RX3 yX3_figuresBehind yX3_figuresBehind, Cond.initialized RX3, Cond.code yX3_figuresBehind cX3_figuresBehind 3 (some .boolean), Cond.methodLink RX3 217 yX3_shiftsToLetters, Cond.instanceMethod yX3_shiftsToLetters, Cond.selects RX3 yX3_shiftsToLetters yX3_shiftsToLetters]
def wsX3_idle_r2 : List Cond := [Cond.code yX3_shiftsToLetters cX3_shiftsToLetters 2 (some .boolean), Cond.fieldLink RX3 90 "TapePrinter" "unshifts" "Z", Cond.methodLink RX3 168 yX3_isShift, Cond.static yX3_isShift, Cond.code yX3_isShift cX3_isShift 1 (some .boolean), Cond.methodLink RX3 171 yX3_servesBehind, Cond.instanceMethod yX3_servesBehind, Cond.selects RX3 yX3_servesBehind yX3_servesBehind, Cond.code yX3_servesBehind cX3_servesBehind 4 (some .boolean), Cond.methodLink RX3 113 yX3_dependsOnShift, Cond.static yX3_dependsOnShift, Cond.code yX3_dependsOnShift cX3_dependsOnShift 2 (some .boolean), Cond.methodLink RX3 211 yX3_characterInLetters, Cond.static yX3_characterInLetters, Cond.code yX3_characterInLetters cX3_characterInLetters 1 (some .int), Cond.fieldLink RX3 214 "TapePrinter" "CHARACTERS" "[I"]
def wsX3_idle : List Cond := .code yX3_idle cX3_idle 6 (some .int) :: ((wsX3_idle_r1 ++ wsX3_idle_r2) ++ wsX30 ++ wsX00)
def wsX3_prints_r1 : List Cond := [Cond.classLink RX3 36 "java/lang/IndexOutOfBoundsException", Cond.initialized "java/lang/IndexOutOfBoundsException", Cond.fieldLink RX3 28 "TapePrinter" "strip" "LTapePrinter$Row;", Cond.methodLink RX3 122 yX0_has, Cond.instanceMethod yX0_has, Cond.selects RX0 yX0_has yX0_has, Cond.initialized RX0, Cond.code yX0_has cX0_has 2 (some .boolean), Cond.fieldLink RX0 13 "TapePrinter$Row" "size" "I", Cond.fieldLink RX0 7 "TapePrinter$Row" "values" "[I", Cond.methodLink RX3 127 yX0_at, Cond.instanceMethod yX0_at, Cond.selects RX0 yX0_at yX0_at, Cond.code yX0_at cX0_at 2 (some .int), Cond.methodLink RX0 17 yX0_has, Cond.methodLink RX3 174 yX3_figuresAhead, Cond.instanceMethod yX3_figuresAhead, Cond.selects RX3 yX3_figuresAhead yX3_figuresAhead, Cond.initialized RX3, Cond.code yX3_figuresAhead cX3_figuresAhead 4 (some .boolean), Cond.methodLink RX3 107 yX0_size, Cond.instanceMethod yX0_size, Cond.selects RX0 yX0_size yX0_size, Cond.code yX0_size cX0_size 1 (some .int)]
def wsX3_prints_r2 : List Cond := [Cond.methodLink RX3 164 yX3_figuresBehind, Cond.instanceMethod yX3_figuresBehind, Cond.selects RX3 yX3_figuresBehind yX3_figuresBehind, Cond.code yX3_figuresBehind cX3_figuresBehind 3 (some .boolean), Cond.methodLink RX3 217 yX3_shiftsToLetters, Cond.instanceMethod yX3_shiftsToLetters, Cond.selects RX3 yX3_shiftsToLetters yX3_shiftsToLetters, Cond.code yX3_shiftsToLetters cX3_shiftsToLetters 2 (some .boolean), Cond.fieldLink RX3 90 "TapePrinter" "unshifts" "Z", Cond.methodLink RX3 52 yX3_characterOf, Cond.static yX3_characterOf, Cond.code yX3_characterOf cX3_characterOf 3 (some .int), Cond.methodLink RX3 211 yX3_characterInLetters, Cond.static yX3_characterInLetters, Cond.code yX3_characterInLetters cX3_characterInLetters 1 (some .int), Cond.fieldLink RX3 214 "TapePrinter" "CHARACTERS" "[I", Cond.methodLink RX3 113 yX3_dependsOnShift, Cond.static yX3_dependsOnShift, Cond.code yX3_dependsOnShift cX3_dependsOnShift 2 (some .boolean)]
def wsX3_prints : List Cond := .code yX3_prints cX3_prints 2 (some .int) :: ((wsX3_prints_r1 ++ wsX3_prints_r2) ++ wsX30 ++ wsX00 ++ (vx_atS RX3 40 "java/lang/IndexOutOfBoundsException" ["java/lang/RuntimeException", "java/lang/Exception"]).filter goodWord)
def wsX3_mean : List Cond := .code yX3_mean cX3_mean 2 (some .double) :: ([.fieldLink RX3 19 "TapePrinter" "sheet" "LTapePrinter$Sheet;", .methodLink RX3 177 yX1_lines, .instanceMethod yX1_lines, .selects RX1 yX1_lines yX1_lines, .initialized RX1, .code yX1_lines cX1_lines 1 (some .int), .fieldLink RX1 17 "TapePrinter$Sheet" "used" "I", .methodLink RX3 180 yX1_characters, .instanceMethod yX1_characters, .selects RX1 yX1_characters yX1_characters, .code yX1_characters cX1_characters 4 (some .int), .methodLink RX1 27 yX1_row, .instanceMethod yX1_row, .selects RX1 yX1_row yX1_row, .code yX1_row cX1_row 3 (some (.object "TapePrinter$Row")), .fieldLink RX1 24 "TapePrinter$Sheet" "first" "I", .fieldLink RX1 11 "TapePrinter$Sheet" "rows" "[LTapePrinter$Row;", .methodLink RX1 38 yX0_size, .instanceMethod yX0_size, .selects RX0 yX0_size yX0_size, .initialized RX0, .code yX0_size cX0_size 1 (some .int), .fieldLink RX0 13 "TapePrinter$Row" "size" "I"] ++ wsX30 ++ wsX10 ++ wsX00)
def wsL_isType : List Cond := .code yL_isType cL_isType 1 (some .boolean) :: ([])
def wsL_codes : List Cond := .code yL_codes cL_codes 3 (some (.array .int)) :: ([.arrayClass .int, .methodLink RL 9 yL_isType, .static yL_isType, .initialized RL, .code yL_isType cL_isType 1 (some .boolean)])
def wsL_characters : List Cond := .code yL_characters cL_characters 4 (some (.array .int)) :: ([.arrayClass .int, .methodLink RL 15 yL_codes, .static yL_codes, .initialized RL, .code yL_codes cL_codes 3 (some (.array .int)), .methodLink RL 9 yL_isType, .static yL_isType, .code yL_isType cL_isType 1 (some .boolean)])
def wsX4_init : List Cond := .code yX4_init cX4_init 1 none :: ([.methodLink RX4 1 objectInit, .instanceMethod objectInit, .code objectInit ⟨#[0xb1]⟩ 1 none, .fieldLink RX4 13 "TapePrinterLaw$Sim" "letters" "[I", .fieldLink RX4 19 "TapePrinterLaw$Sim" "figures" "[I", .classLink RX4 22 "[I", .arrayClass .int, .fieldLink RX4 23 "TapePrinterLaw$Sim" "page" "[[I", .fieldLink RX4 27 "TapePrinterLaw$Sim" "late" "[I", .fieldLink RX4 30 "TapePrinterLaw$Sim" "garble" "[I", .fieldLink RX4 33 "TapePrinterLaw$Sim" "tape" "[I", .static yL_characters, .initialized RL, .code yL_characters cL_characters 4 (some (.array .int)), .methodLink RL 15 yL_codes, .static yL_codes, .code yL_codes cL_codes 3 (some (.array .int)), .methodLink RL 9 yL_isType, .static yL_isType, .code yL_isType cL_isType 1 (some .boolean)] ++ wsX40)
def wsX4_more : List Cond := .code yX4_more cX4_more 4 (some (.array .int)) :: ([.arrayClass .int])
def wsX4_read : List Cond := .code yX4_read cX4_read 8 (some .int) :: ([.arrayClass .boolean, .fieldLink RX4 30 "TapePrinterLaw$Sim" "garble" "[I", .fieldLink RX4 27 "TapePrinterLaw$Sim" "late" "[I", .fieldLink RX4 36 "TapePrinterLaw$Sim" "play" "I"] ++ wsX40)
def wsX4_after : List Cond := .code yX4_after cX4_after 3 (some .boolean) :: ([.fieldLink RX4 40 "TapePrinterLaw$Sim" "unshifts" "Z"] ++ wsX40)
def wsX4_come_r1 : List Cond := [Cond.fieldLink RX4 44 "TapePrinterLaw$Sim" "came" "I", Cond.fieldLink RX4 51 "TapePrinterLaw$Sim" "wrong" "I", Cond.fieldLink RX4 54 "TapePrinterLaw$Sim" "rang" "I", Cond.fieldLink RX4 23 "TapePrinterLaw$Sim" "page" "[[I", Cond.classLink RX4 22 "[I", Cond.arrayClass .int, Cond.fieldLink RX4 57 "TapePrinterLaw$Sim" "isFigures" "Z", Cond.fieldLink RX4 19 "TapePrinterLaw$Sim" "figures" "[I", Cond.fieldLink RX4 13 "TapePrinterLaw$Sim" "letters" "[I", Cond.fieldLink RX4 60 "TapePrinterLaw$Sim" "lost" "I", Cond.methodLink RX4 47 yX4_read, Cond.instanceMethod yX4_read, Cond.selects RX4 yX4_read yX4_read, Cond.initialized RX4, Cond.code yX4_read cX4_read 8 (some .int), Cond.arrayClass .boolean, Cond.fieldLink RX4 30 "TapePrinterLaw$Sim" "garble" "[I", Cond.fieldLink RX4 27 "TapePrinterLaw$Sim" "late" "[I", Cond.fieldLink RX4 36 "TapePrinterLaw$Sim" "play" "I", Cond.methodLink RX4 63 yX4_more, Cond.static yX4_more, Cond.code yX4_more cX4_more 4 (some (.array .int)), Cond.methodLink RX4 67 yX4_after, Cond.instanceMethod yX4_after]
def wsX4_come_r2 : List Cond := [Cond.selects RX4 yX4_after yX4_after, Cond.code yX4_after cX4_after 3 (some .boolean), Cond.fieldLink RX4 40 "TapePrinterLaw$Sim" "unshifts" "Z"]
def wsX4_come : List Cond := .code yX4_come cX4_come 6 (some .int) :: ((wsX4_come_r1 ++ wsX4_come_r2) ++ wsX40)
def wsX4_shifts : List Cond := .code yX4_shifts cX4_shifts 3 (some (.array .boolean)) :: ([.fieldLink RX4 33 "TapePrinterLaw$Sim" "tape" "[I", .arrayClass .boolean, .methodLink RX4 67 yX4_after, .instanceMethod yX4_after, .selects RX4 yX4_after yX4_after, .initialized RX4, .code yX4_after cX4_after 3 (some .boolean), .fieldLink RX4 40 "TapePrinterLaw$Sim" "unshifts" "Z"] ++ wsX40)
def wsX4_isSame_r1 : List Cond := [Cond.fieldLink RX4 23 "TapePrinterLaw$Sim" "page" "[[I", Cond.fieldLink RX4 33 "TapePrinterLaw$Sim" "tape" "[I", Cond.fieldLink RX4 19 "TapePrinterLaw$Sim" "figures" "[I", Cond.fieldLink RX4 13 "TapePrinterLaw$Sim" "letters" "[I", Cond.arrayClass .int, Cond.fieldLink RX4 57 "TapePrinterLaw$Sim" "isFigures" "Z", Cond.fieldLink RX4 36 "TapePrinterLaw$Sim" "play" "I", Cond.fieldLink RX4 88 "TapePrinterLaw$Sim" "reader" "I", Cond.fieldLink RX4 44 "TapePrinterLaw$Sim" "came" "I", Cond.fieldLink RX4 51 "TapePrinterLaw$Sim" "wrong" "I", Cond.fieldLink RX4 60 "TapePrinterLaw$Sim" "lost" "I", Cond.fieldLink RX4 40 "TapePrinterLaw$Sim" "unshifts" "Z", Cond.fieldLink RX4 54 "TapePrinterLaw$Sim" "rang" "I", Cond.methodLink RX4 71 yX3_length, Cond.instanceMethod yX3_length, Cond.selects RX3 yX3_length yX3_length, Cond.initialized RX3, Cond.code yX3_length cX3_length 3 (some .int), Cond.classLink RX3 36 "java/lang/IndexOutOfBoundsException", Cond.initialized "java/lang/IndexOutOfBoundsException", Cond.fieldLink RX3 19 "TapePrinter" "sheet" "LTapePrinter$Sheet;", Cond.methodLink RX3 145 yX1_row, Cond.instanceMethod yX1_row, Cond.selects RX1 yX1_row yX1_row]
def wsX4_isSame_r2 : List Cond := [Cond.initialized RX1, Cond.code yX1_row cX1_row 3 (some (.object "TapePrinter$Row")), Cond.fieldLink RX1 17 "TapePrinter$Sheet" "used" "I", Cond.fieldLink RX1 24 "TapePrinter$Sheet" "first" "I", Cond.fieldLink RX1 11 "TapePrinter$Sheet" "rows" "[LTapePrinter$Row;", Cond.methodLink RX3 107 yX0_size, Cond.instanceMethod yX0_size, Cond.selects RX0 yX0_size yX0_size, Cond.initialized RX0, Cond.code yX0_size cX0_size 1 (some .int), Cond.fieldLink RX0 13 "TapePrinter$Row" "size" "I", Cond.methodLink RX4 77 yX3_page, Cond.instanceMethod yX3_page, Cond.selects RX3 yX3_page yX3_page, Cond.code yX3_page cX3_page 4 (some .int), Cond.methodLink RX3 122 yX0_has, Cond.instanceMethod yX0_has, Cond.selects RX0 yX0_has yX0_has, Cond.code yX0_has cX0_has 2 (some .boolean), Cond.fieldLink RX0 7 "TapePrinter$Row" "values" "[I", Cond.methodLink RX3 127 yX0_at, Cond.instanceMethod yX0_at, Cond.selects RX0 yX0_at yX0_at, Cond.code yX0_at cX0_at 2 (some .int)]
def wsX4_isSame_r3 : List Cond := [Cond.methodLink RX0 17 yX0_has, Cond.methodLink RX4 79 yX4_shifts, Cond.instanceMethod yX4_shifts, Cond.selects RX4 yX4_shifts yX4_shifts, Cond.initialized RX4, Cond.code yX4_shifts cX4_shifts 3 (some (.array .boolean)), Cond.arrayClass .boolean, Cond.methodLink RX4 67 yX4_after, Cond.instanceMethod yX4_after, Cond.selects RX4 yX4_after yX4_after, Cond.code yX4_after cX4_after 3 (some .boolean), Cond.methodLink RX4 83 yX3_tape, Cond.instanceMethod yX3_tape, Cond.selects RX3 yX3_tape yX3_tape, Cond.code yX3_tape cX3_tape 2 (some .int), Cond.fieldLink RX3 28 "TapePrinter" "strip" "LTapePrinter$Row;", Cond.methodLink RX4 85 yX3_prints, Cond.instanceMethod yX3_prints, Cond.selects RX3 yX3_prints yX3_prints, Cond.code yX3_prints cX3_prints 2 (some .int), Cond.methodLink RX3 174 yX3_figuresAhead, Cond.instanceMethod yX3_figuresAhead, Cond.selects RX3 yX3_figuresAhead yX3_figuresAhead, Cond.code yX3_figuresAhead cX3_figuresAhead 4 (some .boolean)]
def wsX4_isSame_r4 : List Cond := [Cond.methodLink RX3 164 yX3_figuresBehind, Cond.instanceMethod yX3_figuresBehind, Cond.selects RX3 yX3_figuresBehind yX3_figuresBehind, Cond.code yX3_figuresBehind cX3_figuresBehind 3 (some .boolean), Cond.methodLink RX3 217 yX3_shiftsToLetters, Cond.instanceMethod yX3_shiftsToLetters, Cond.selects RX3 yX3_shiftsToLetters yX3_shiftsToLetters, Cond.code yX3_shiftsToLetters cX3_shiftsToLetters 2 (some .boolean), Cond.fieldLink RX3 90 "TapePrinter" "unshifts" "Z", Cond.methodLink RX3 52 yX3_characterOf, Cond.static yX3_characterOf, Cond.code yX3_characterOf cX3_characterOf 3 (some .int), Cond.methodLink RX3 211 yX3_characterInLetters, Cond.static yX3_characterInLetters, Cond.code yX3_characterInLetters cX3_characterInLetters 1 (some .int), Cond.fieldLink RX3 214 "TapePrinter" "CHARACTERS" "[I", Cond.methodLink RX3 113 yX3_dependsOnShift, Cond.static yX3_dependsOnShift, Cond.code yX3_dependsOnShift cX3_dependsOnShift 2 (some .boolean), Cond.methodLink RX4 91 yX3_count, Cond.instanceMethod yX3_count, Cond.selects RX3 yX3_count yX3_count, Cond.code yX3_count cX3_count 2 (some .int), Cond.methodLink RX3 155 yX3_counted]
def wsX4_isSame_r5 : List Cond := [Cond.instanceMethod yX3_counted, Cond.selects RX3 yX3_counted yX3_counted, Cond.code yX3_counted cX3_counted 2 (some .int), Cond.fieldLink RX3 61 "TapePrinter" "figures" "Z", Cond.fieldLink RX3 10 "TapePrinter" "wire" "LTapePrinter$Wire;", Cond.fieldLink RX3 135 "TapePrinter" "reader" "I", Cond.fieldLink RX3 158 "TapePrinter" "came" "I", Cond.fieldLink RX3 198 "TapePrinter" "misread" "I", Cond.fieldLink RX3 201 "TapePrinter" "lost" "I", Cond.fieldLink RX3 204 "TapePrinter" "bells" "I", Cond.methodLink RX3 177 yX1_lines, Cond.instanceMethod yX1_lines, Cond.selects RX1 yX1_lines yX1_lines, Cond.code yX1_lines cX1_lines 1 (some .int), Cond.methodLink RX3 180 yX1_characters, Cond.instanceMethod yX1_characters, Cond.selects RX1 yX1_characters yX1_characters, Cond.code yX1_characters cX1_characters 4 (some .int), Cond.methodLink RX1 27 yX1_row, Cond.methodLink RX1 38 yX0_size, Cond.methodLink RX3 83 yX2_play, Cond.instanceMethod yX2_play, Cond.selects RX2 yX2_play yX2_play, Cond.initialized RX2]
def wsX4_isSame_r6 : List Cond := [Cond.code yX2_play cX2_play 1 (some .int), Cond.fieldLink RX2 27 "TapePrinter$Wire" "play" "I", Cond.methodLink RX4 94 yX3_mean, Cond.instanceMethod yX3_mean, Cond.selects RX3 yX3_mean yX3_mean, Cond.code yX3_mean cX3_mean 2 (some .double)]
def wsX4_isSame : List Cond := .code yX4_isSame cX4_isSame 6 (some .boolean) :: ((wsX4_isSame_r1 ++ (wsX4_isSame_r2 ++ (wsX4_isSame_r3 ++ (wsX4_isSame_r4 ++ (wsX4_isSame_r5 ++ wsX4_isSame_r6))))) ++ wsX40 ++ wsX30 ++ wsX10 ++ wsX00 ++ wsX20 ++ (vx_atS RX3 40 "java/lang/IndexOutOfBoundsException" ["java/lang/RuntimeException", "java/lang/Exception"]).filter goodWord)
def wsJ9_min_7cf53 : List Cond := .code yJ9_min_7cf53 cJ9_min_7cf53 2 (some .int) :: ([])
def wsL_below : List Cond := .code yL_below cL_below 2 (some .int) :: ([.constant RL 7 (2147483647)])
def wsL_cell : List Cond := .code yL_cell cL_cell 2 (some .int) :: ([.constant RL 8 (790386105)])
def wsL_act_r1 : List Cond := [Cond.fieldLink RL 19 "TapePrinterLaw$Sim" "tape" "[I", Cond.fieldLink RL 29 "TapePrinterLaw$Sim" "late" "[I", Cond.fieldLink RL 32 "TapePrinterLaw$Sim" "garble" "[I", Cond.fieldLink RL 41 "TapePrinterLaw$Sim" "play" "I", Cond.fieldLink RL 49 "TapePrinterLaw$Sim" "unshifts" "Z", Cond.fieldLink RL 80 "TapePrinterLaw$Sim" "reader" "I", Cond.methodLink RL 25 yL_below, Cond.static yL_below, Cond.initialized RL, Cond.code yL_below cL_below 2 (some .int), Cond.constant RL 7 (2147483647), Cond.methodLink RL 35 yX3_setLine, Cond.instanceMethod yX3_setLine, Cond.selects RX3 yX3_setLine yX3_setLine, Cond.initialized RX3, Cond.code yX3_setLine cX3_setLine 5 (some .int), Cond.classLink RX3 36 "java/lang/IndexOutOfBoundsException", Cond.initialized "java/lang/IndexOutOfBoundsException", Cond.classLink RX3 67 "java/lang/IllegalArgumentException", Cond.initialized "java/lang/IllegalArgumentException", Cond.fieldLink RX3 10 "TapePrinter" "wire" "LTapePrinter$Wire;", Cond.methodLink RX3 47 yX3_isCode, Cond.static yX3_isCode, Cond.code yX3_isCode cX3_isCode 1 (some .boolean)]
def wsL_act_r2 : List Cond := [Cond.methodLink RX3 74 yX2_lateAt, Cond.instanceMethod yX2_lateAt, Cond.selects RX2 yX2_lateAt yX2_lateAt, Cond.initialized RX2, Cond.code yX2_lateAt cX2_lateAt 2 (some .int), Cond.fieldLink RX2 14 "TapePrinter$Wire" "late" "LTapePrinter$Row;", Cond.methodLink RX2 31 yX0_at, Cond.instanceMethod yX0_at, Cond.selects RX0 yX0_at yX0_at, Cond.initialized RX0, Cond.code yX0_at cX0_at 2 (some .int), Cond.fieldLink RX0 7 "TapePrinter$Row" "values" "[I", Cond.methodLink RX0 17 yX0_has, Cond.instanceMethod yX0_has, Cond.selects RX0 yX0_has yX0_has, Cond.code yX0_has cX0_has 2 (some .boolean), Cond.fieldLink RX0 13 "TapePrinter$Row" "size" "I", Cond.methodLink RX3 77 yX2_change, Cond.instanceMethod yX2_change, Cond.selects RX2 yX2_change yX2_change, Cond.code yX2_change cX2_change 4 none, Cond.fieldLink RX2 20 "TapePrinter$Wire" "garbled" "LTapePrinter$Row;", Cond.methodLink RX2 35 yX0_change, Cond.instanceMethod yX0_change]
def wsL_act_r3 : List Cond := [Cond.selects RX0 yX0_change yX0_change, Cond.code yX0_change cX0_change 3 none, Cond.methodLink RL 45 yX3_setPlay, Cond.instanceMethod yX3_setPlay, Cond.selects RX3 yX3_setPlay yX3_setPlay, Cond.code yX3_setPlay cX3_setPlay 3 (some .int), Cond.methodLink RX3 83 yX2_play, Cond.instanceMethod yX2_play, Cond.selects RX2 yX2_play yX2_play, Cond.code yX2_play cX2_play 1 (some .int), Cond.fieldLink RX2 27 "TapePrinter$Wire" "play" "I", Cond.methodLink RX3 87 yX2_changePlay, Cond.instanceMethod yX2_changePlay, Cond.selects RX2 yX2_changePlay yX2_changePlay, Cond.code yX2_changePlay cX2_changePlay 2 none, Cond.methodLink RL 53 yX3_setUnshift, Cond.instanceMethod yX3_setUnshift, Cond.selects RX3 yX3_setUnshift yX3_setUnshift, Cond.code yX3_setUnshift cX3_setUnshift 3 (some .boolean), Cond.fieldLink RX3 90 "TapePrinter" "unshifts" "Z", Cond.methodLink RL 57 yX3_receive, Cond.instanceMethod yX3_receive, Cond.selects RX3 yX3_receive yX3_receive, Cond.code yX3_receive cX3_receive 2 (some .int)]
def wsL_act_r4 : List Cond := [Cond.methodLink RX3 93 yX3_takeIn, Cond.instanceMethod yX3_takeIn, Cond.selects RX3 yX3_takeIn yX3_takeIn, Cond.code yX3_takeIn cX3_takeIn 3 (some .int), Cond.fieldLink RX3 158 "TapePrinter" "came" "I", Cond.fieldLink RX3 198 "TapePrinter" "misread" "I", Cond.methodLink RX3 161 yX2_readAs, Cond.instanceMethod yX2_readAs, Cond.selects RX2 yX2_readAs yX2_readAs, Cond.code yX2_readAs cX2_readAs 6 (some .int), Cond.methodLink RX3 220 yX3_obey, Cond.instanceMethod yX3_obey, Cond.selects RX3 yX3_obey yX3_obey, Cond.code yX3_obey cX3_obey 3 none, Cond.fieldLink RX3 61 "TapePrinter" "figures" "Z", Cond.fieldLink RX3 19 "TapePrinter" "sheet" "LTapePrinter$Sheet;", Cond.fieldLink RX3 201 "TapePrinter" "lost" "I", Cond.fieldLink RX3 204 "TapePrinter" "bells" "I", Cond.methodLink RX3 52 yX3_characterOf, Cond.static yX3_characterOf, Cond.code yX3_characterOf cX3_characterOf 3 (some .int), Cond.methodLink RX3 211 yX3_characterInLetters, Cond.static yX3_characterInLetters, Cond.code yX3_characterInLetters cX3_characterInLetters 1 (some .int)]
def wsL_act_r5 : List Cond := [Cond.fieldLink RX3 214 "TapePrinter" "CHARACTERS" "[I", Cond.methodLink RX3 113 yX3_dependsOnShift, Cond.static yX3_dependsOnShift, Cond.code yX3_dependsOnShift cX3_dependsOnShift 2 (some .boolean), Cond.methodLink RX3 223 yX1_beginLine, Cond.instanceMethod yX1_beginLine, Cond.selects RX1 yX1_beginLine yX1_beginLine, Cond.initialized RX1, Cond.code yX1_beginLine cX1_beginLine 2 none, Cond.fieldLink RX1 17 "TapePrinter$Sheet" "used" "I", Cond.fieldLink RX1 24 "TapePrinter$Sheet" "first" "I", Cond.methodLink RX1 27 yX1_row, Cond.instanceMethod yX1_row, Cond.selects RX1 yX1_row yX1_row, Cond.code yX1_row cX1_row 3 (some (.object "TapePrinter$Row")), Cond.fieldLink RX1 11 "TapePrinter$Sheet" "rows" "[LTapePrinter$Row;", Cond.methodLink RX1 35 yX0_clear, Cond.instanceMethod yX0_clear, Cond.selects RX0 yX0_clear yX0_clear, Cond.code yX0_clear cX0_clear 1 none, Cond.methodLink RX3 226 yX1_add, Cond.instanceMethod yX1_add, Cond.selects RX1 yX1_add yX1_add, Cond.code yX1_add cX1_add 3 (some .boolean)]
def wsL_act_r6 : List Cond := [Cond.methodLink RX1 31 yX0_add, Cond.instanceMethod yX0_add, Cond.selects RX0 yX0_add yX0_add, Cond.code yX0_add cX0_add 2 (some .boolean), Cond.methodLink RX3 164 yX3_figuresBehind, Cond.instanceMethod yX3_figuresBehind, Cond.selects RX3 yX3_figuresBehind yX3_figuresBehind, Cond.code yX3_figuresBehind cX3_figuresBehind 3 (some .boolean), Cond.methodLink RX3 217 yX3_shiftsToLetters, Cond.instanceMethod yX3_shiftsToLetters, Cond.selects RX3 yX3_shiftsToLetters yX3_shiftsToLetters, Cond.code yX3_shiftsToLetters cX3_shiftsToLetters 2 (some .boolean), Cond.methodLink RL 60 yX4_come, Cond.instanceMethod yX4_come, Cond.selects RX4 yX4_come yX4_come, Cond.initialized RX4, Cond.code yX4_come cX4_come 6 (some .int), Cond.fieldLink RX4 44 "TapePrinterLaw$Sim" "came" "I", Cond.fieldLink RX4 51 "TapePrinterLaw$Sim" "wrong" "I", Cond.fieldLink RX4 54 "TapePrinterLaw$Sim" "rang" "I", Cond.fieldLink RX4 23 "TapePrinterLaw$Sim" "page" "[[I", Cond.classLink RX4 22 "[I", Cond.arrayClass .int, Cond.fieldLink RX4 57 "TapePrinterLaw$Sim" "isFigures" "Z"]
def wsL_act_r7 : List Cond := [Cond.fieldLink RX4 19 "TapePrinterLaw$Sim" "figures" "[I", Cond.fieldLink RX4 13 "TapePrinterLaw$Sim" "letters" "[I", Cond.fieldLink RX4 60 "TapePrinterLaw$Sim" "lost" "I", Cond.methodLink RX4 47 yX4_read, Cond.instanceMethod yX4_read, Cond.selects RX4 yX4_read yX4_read, Cond.code yX4_read cX4_read 8 (some .int), Cond.arrayClass .boolean, Cond.fieldLink RX4 30 "TapePrinterLaw$Sim" "garble" "[I", Cond.fieldLink RX4 27 "TapePrinterLaw$Sim" "late" "[I", Cond.fieldLink RX4 36 "TapePrinterLaw$Sim" "play" "I", Cond.methodLink RX4 63 yX4_more, Cond.static yX4_more, Cond.code yX4_more cX4_more 4 (some (.array .int)), Cond.methodLink RX4 67 yX4_after, Cond.instanceMethod yX4_after, Cond.selects RX4 yX4_after yX4_after, Cond.code yX4_after cX4_after 3 (some .boolean), Cond.fieldLink RX4 40 "TapePrinterLaw$Sim" "unshifts" "Z", Cond.methodLink RL 63 yX4_more, Cond.methodLink RL 67 yX3_punch, Cond.instanceMethod yX3_punch, Cond.selects RX3 yX3_punch yX3_punch, Cond.code yX3_punch cX3_punch 2 (some .int)]
def wsL_act_r8 : List Cond := [Cond.classLink RX3 99 "java/lang/IllegalStateException", Cond.initialized "java/lang/IllegalStateException", Cond.fieldLink RX3 28 "TapePrinter" "strip" "LTapePrinter$Row;", Cond.methodLink RX3 96 yX0_room, Cond.instanceMethod yX0_room, Cond.selects RX0 yX0_room yX0_room, Cond.code yX0_room cX0_room 1 (some .int), Cond.methodLink RX3 104 yX0_add, Cond.methodLink RX3 107 yX0_size, Cond.instanceMethod yX0_size, Cond.selects RX0 yX0_size yX0_size, Cond.code yX0_size cX0_size 1 (some .int), Cond.methodLink RL 70 yX4_shifts, Cond.instanceMethod yX4_shifts, Cond.selects RX4 yX4_shifts yX4_shifts, Cond.code yX4_shifts cX4_shifts 3 (some (.array .boolean)), Cond.fieldLink RX4 33 "TapePrinterLaw$Sim" "tape" "[I", Cond.methodLink RL 15 yL_codes, Cond.static yL_codes, Cond.code yL_codes cL_codes 3 (some (.array .int)), Cond.methodLink RL 9 yL_isType, Cond.static yL_isType, Cond.code yL_isType cL_isType 1 (some .boolean), Cond.methodLink RL 74 yX3_type]
def wsL_act_r9 : List Cond := [Cond.instanceMethod yX3_type, Cond.selects RX3 yX3_type yX3_type, Cond.code yX3_type cX3_type 5 (some .int), Cond.methodLink RX3 32 yX3_isCharacter, Cond.static yX3_isCharacter, Cond.code yX3_isCharacter cX3_isCharacter 1 (some .boolean), Cond.methodLink RX3 110 yX3_isFigure, Cond.static yX3_isFigure, Cond.code yX3_isFigure cX3_isFigure 1 (some .boolean), Cond.methodLink RX3 43 yX3_codeOf, Cond.static yX3_codeOf, Cond.code yX3_codeOf cX3_codeOf 1 (some .int), Cond.fieldLink RX3 207 "TapePrinter" "CODES" "[I", Cond.methodLink RX3 116 yX3_figuresAtEnd, Cond.instanceMethod yX3_figuresAtEnd, Cond.selects RX3 yX3_figuresAtEnd yX3_figuresAtEnd, Cond.code yX3_figuresAtEnd cX3_figuresAtEnd 1 (some .boolean), Cond.methodLink RX3 174 yX3_figuresAhead, Cond.instanceMethod yX3_figuresAhead, Cond.selects RX3 yX3_figuresAhead yX3_figuresAhead, Cond.code yX3_figuresAhead cX3_figuresAhead 4 (some .boolean), Cond.methodLink RX3 127 yX0_at, Cond.methodLink RL 77 yX3_rub, Cond.instanceMethod yX3_rub]
def wsL_act_r10 : List Cond := [Cond.selects RX3 yX3_rub yX3_rub, Cond.code yX3_rub cX3_rub 3 (some .int), Cond.methodLink RX3 122 yX0_has, Cond.methodLink RX3 130 yX0_change, Cond.methodLink RL 83 yX3_wind, Cond.instanceMethod yX3_wind, Cond.selects RX3 yX3_wind yX3_wind, Cond.code yX3_wind cX3_wind 3 (some .int), Cond.fieldLink RX3 135 "TapePrinter" "reader" "I", Cond.methodLink RL 86 yX3_run, Cond.instanceMethod yX3_run, Cond.selects RX3 yX3_run yX3_run, Cond.code yX3_run cX3_run 4 (some .int), Cond.methodLink RX3 139 Lib.Math.min.name, Cond.static Lib.Math.min.name, Cond.initialized "java/lang/Math", Cond.code Lib.Math.min.name Lib.Math.min.code 2 (some .int)]
def wsL_act : List Cond := .code yL_act cL_act 17 (some .boolean) :: ((wsL_act_r1 ++ (wsL_act_r2 ++ (wsL_act_r3 ++ (wsL_act_r4 ++ (wsL_act_r5 ++ (wsL_act_r6 ++ (wsL_act_r7 ++ (wsL_act_r8 ++ (wsL_act_r9 ++ wsL_act_r10))))))))) ++ wsX40 ++ wsX30 ++ wsX20 ++ wsX00 ++ wsX10 ++ (vx_atS RX3 40 "java/lang/IndexOutOfBoundsException" ["java/lang/RuntimeException", "java/lang/Exception"]).filter goodWord ++ (vx_atS RX3 71 "java/lang/IllegalArgumentException" ["java/lang/RuntimeException", "java/lang/Exception"]).filter goodWord ++ (vx_atS RX3 103 "java/lang/IllegalStateException" ["java/lang/RuntimeException", "java/lang/Exception"]).filter goodWord)
def wsL_build_r1 : List Cond := [Cond.classLink RL 20 RX4, Cond.instantiable RX4 14, Cond.initialized RX4, Cond.instanceMethod yX4_init, Cond.code yX4_init cX4_init 1 none, Cond.methodLink RX4 1 objectInit, Cond.instanceMethod objectInit, Cond.code objectInit ⟨#[0xb1]⟩ 1 none, Cond.fieldLink RX4 13 "TapePrinterLaw$Sim" "letters" "[I", Cond.fieldLink RX4 19 "TapePrinterLaw$Sim" "figures" "[I", Cond.classLink RX4 22 "[I", Cond.arrayClass .int, Cond.fieldLink RX4 23 "TapePrinterLaw$Sim" "page" "[[I", Cond.fieldLink RX4 27 "TapePrinterLaw$Sim" "late" "[I", Cond.fieldLink RX4 30 "TapePrinterLaw$Sim" "garble" "[I", Cond.fieldLink RX4 33 "TapePrinterLaw$Sim" "tape" "[I", Cond.static yL_characters, Cond.initialized RL, Cond.code yL_characters cL_characters 4 (some (.array .int)), Cond.methodLink RL 15 yL_codes, Cond.static yL_codes, Cond.code yL_codes cL_codes 3 (some (.array .int)), Cond.methodLink RL 9 yL_isType, Cond.static yL_isType]
def wsL_build_r2 : List Cond := [Cond.code yL_isType cL_isType 1 (some .boolean), Cond.methodLink RL 90 yL_cell, Cond.static yL_cell, Cond.code yL_cell cL_cell 2 (some .int), Cond.constant RL 8 (790386105), Cond.methodLink RL 94 yL_act, Cond.static yL_act, Cond.code yL_act cL_act 17 (some .boolean), Cond.fieldLink RL 19 "TapePrinterLaw$Sim" "tape" "[I", Cond.fieldLink RL 29 "TapePrinterLaw$Sim" "late" "[I", Cond.fieldLink RL 32 "TapePrinterLaw$Sim" "garble" "[I", Cond.fieldLink RL 41 "TapePrinterLaw$Sim" "play" "I", Cond.fieldLink RL 49 "TapePrinterLaw$Sim" "unshifts" "Z", Cond.fieldLink RL 80 "TapePrinterLaw$Sim" "reader" "I", Cond.methodLink RL 25 yL_below, Cond.static yL_below, Cond.code yL_below cL_below 2 (some .int), Cond.constant RL 7 (2147483647), Cond.methodLink RL 35 yX3_setLine, Cond.instanceMethod yX3_setLine, Cond.selects RX3 yX3_setLine yX3_setLine, Cond.initialized RX3, Cond.code yX3_setLine cX3_setLine 5 (some .int), Cond.classLink RX3 36 "java/lang/IndexOutOfBoundsException"]
def wsL_build_r3 : List Cond := [Cond.initialized "java/lang/IndexOutOfBoundsException", Cond.classLink RX3 67 "java/lang/IllegalArgumentException", Cond.initialized "java/lang/IllegalArgumentException", Cond.fieldLink RX3 10 "TapePrinter" "wire" "LTapePrinter$Wire;", Cond.methodLink RX3 47 yX3_isCode, Cond.static yX3_isCode, Cond.code yX3_isCode cX3_isCode 1 (some .boolean), Cond.methodLink RX3 74 yX2_lateAt, Cond.instanceMethod yX2_lateAt, Cond.selects RX2 yX2_lateAt yX2_lateAt, Cond.initialized RX2, Cond.code yX2_lateAt cX2_lateAt 2 (some .int), Cond.fieldLink RX2 14 "TapePrinter$Wire" "late" "LTapePrinter$Row;", Cond.methodLink RX2 31 yX0_at, Cond.instanceMethod yX0_at, Cond.selects RX0 yX0_at yX0_at, Cond.initialized RX0, Cond.code yX0_at cX0_at 2 (some .int), Cond.fieldLink RX0 7 "TapePrinter$Row" "values" "[I", Cond.methodLink RX0 17 yX0_has, Cond.instanceMethod yX0_has, Cond.selects RX0 yX0_has yX0_has, Cond.code yX0_has cX0_has 2 (some .boolean), Cond.fieldLink RX0 13 "TapePrinter$Row" "size" "I"]
def wsL_build_r4 : List Cond := [Cond.methodLink RX3 77 yX2_change, Cond.instanceMethod yX2_change, Cond.selects RX2 yX2_change yX2_change, Cond.code yX2_change cX2_change 4 none, Cond.fieldLink RX2 20 "TapePrinter$Wire" "garbled" "LTapePrinter$Row;", Cond.methodLink RX2 35 yX0_change, Cond.instanceMethod yX0_change, Cond.selects RX0 yX0_change yX0_change, Cond.code yX0_change cX0_change 3 none, Cond.methodLink RL 45 yX3_setPlay, Cond.instanceMethod yX3_setPlay, Cond.selects RX3 yX3_setPlay yX3_setPlay, Cond.code yX3_setPlay cX3_setPlay 3 (some .int), Cond.methodLink RX3 83 yX2_play, Cond.instanceMethod yX2_play, Cond.selects RX2 yX2_play yX2_play, Cond.code yX2_play cX2_play 1 (some .int), Cond.fieldLink RX2 27 "TapePrinter$Wire" "play" "I", Cond.methodLink RX3 87 yX2_changePlay, Cond.instanceMethod yX2_changePlay, Cond.selects RX2 yX2_changePlay yX2_changePlay, Cond.code yX2_changePlay cX2_changePlay 2 none, Cond.methodLink RL 53 yX3_setUnshift, Cond.instanceMethod yX3_setUnshift]
def wsL_build_r5 : List Cond := [Cond.selects RX3 yX3_setUnshift yX3_setUnshift, Cond.code yX3_setUnshift cX3_setUnshift 3 (some .boolean), Cond.fieldLink RX3 90 "TapePrinter" "unshifts" "Z", Cond.methodLink RL 57 yX3_receive, Cond.instanceMethod yX3_receive, Cond.selects RX3 yX3_receive yX3_receive, Cond.code yX3_receive cX3_receive 2 (some .int), Cond.methodLink RX3 93 yX3_takeIn, Cond.instanceMethod yX3_takeIn, Cond.selects RX3 yX3_takeIn yX3_takeIn, Cond.code yX3_takeIn cX3_takeIn 3 (some .int), Cond.fieldLink RX3 158 "TapePrinter" "came" "I", Cond.fieldLink RX3 198 "TapePrinter" "misread" "I", Cond.methodLink RX3 161 yX2_readAs, Cond.instanceMethod yX2_readAs, Cond.selects RX2 yX2_readAs yX2_readAs, Cond.code yX2_readAs cX2_readAs 6 (some .int), Cond.methodLink RX3 220 yX3_obey, Cond.instanceMethod yX3_obey, Cond.selects RX3 yX3_obey yX3_obey, Cond.code yX3_obey cX3_obey 3 none, Cond.fieldLink RX3 61 "TapePrinter" "figures" "Z", Cond.fieldLink RX3 19 "TapePrinter" "sheet" "LTapePrinter$Sheet;", Cond.fieldLink RX3 201 "TapePrinter" "lost" "I"]
def wsL_build_r6 : List Cond := [Cond.fieldLink RX3 204 "TapePrinter" "bells" "I", Cond.methodLink RX3 52 yX3_characterOf, Cond.static yX3_characterOf, Cond.code yX3_characterOf cX3_characterOf 3 (some .int), Cond.methodLink RX3 211 yX3_characterInLetters, Cond.static yX3_characterInLetters, Cond.code yX3_characterInLetters cX3_characterInLetters 1 (some .int), Cond.fieldLink RX3 214 "TapePrinter" "CHARACTERS" "[I", Cond.methodLink RX3 113 yX3_dependsOnShift, Cond.static yX3_dependsOnShift, Cond.code yX3_dependsOnShift cX3_dependsOnShift 2 (some .boolean), Cond.methodLink RX3 223 yX1_beginLine, Cond.instanceMethod yX1_beginLine, Cond.selects RX1 yX1_beginLine yX1_beginLine, Cond.initialized RX1, Cond.code yX1_beginLine cX1_beginLine 2 none, Cond.fieldLink RX1 17 "TapePrinter$Sheet" "used" "I", Cond.fieldLink RX1 24 "TapePrinter$Sheet" "first" "I", Cond.methodLink RX1 27 yX1_row, Cond.instanceMethod yX1_row, Cond.selects RX1 yX1_row yX1_row, Cond.code yX1_row cX1_row 3 (some (.object "TapePrinter$Row")), Cond.fieldLink RX1 11 "TapePrinter$Sheet" "rows" "[LTapePrinter$Row;", Cond.methodLink RX1 35 yX0_clear]
def wsL_build_r7 : List Cond := [Cond.instanceMethod yX0_clear, Cond.selects RX0 yX0_clear yX0_clear, Cond.code yX0_clear cX0_clear 1 none, Cond.methodLink RX3 226 yX1_add, Cond.instanceMethod yX1_add, Cond.selects RX1 yX1_add yX1_add, Cond.code yX1_add cX1_add 3 (some .boolean), Cond.methodLink RX1 31 yX0_add, Cond.instanceMethod yX0_add, Cond.selects RX0 yX0_add yX0_add, Cond.code yX0_add cX0_add 2 (some .boolean), Cond.methodLink RX3 164 yX3_figuresBehind, Cond.instanceMethod yX3_figuresBehind, Cond.selects RX3 yX3_figuresBehind yX3_figuresBehind, Cond.code yX3_figuresBehind cX3_figuresBehind 3 (some .boolean), Cond.methodLink RX3 217 yX3_shiftsToLetters, Cond.instanceMethod yX3_shiftsToLetters, Cond.selects RX3 yX3_shiftsToLetters yX3_shiftsToLetters, Cond.code yX3_shiftsToLetters cX3_shiftsToLetters 2 (some .boolean), Cond.methodLink RL 60 yX4_come, Cond.instanceMethod yX4_come, Cond.selects RX4 yX4_come yX4_come, Cond.code yX4_come cX4_come 6 (some .int), Cond.fieldLink RX4 44 "TapePrinterLaw$Sim" "came" "I"]
def wsL_build_r8 : List Cond := [Cond.fieldLink RX4 51 "TapePrinterLaw$Sim" "wrong" "I", Cond.fieldLink RX4 54 "TapePrinterLaw$Sim" "rang" "I", Cond.fieldLink RX4 57 "TapePrinterLaw$Sim" "isFigures" "Z", Cond.fieldLink RX4 60 "TapePrinterLaw$Sim" "lost" "I", Cond.methodLink RX4 47 yX4_read, Cond.instanceMethod yX4_read, Cond.selects RX4 yX4_read yX4_read, Cond.code yX4_read cX4_read 8 (some .int), Cond.arrayClass .boolean, Cond.fieldLink RX4 36 "TapePrinterLaw$Sim" "play" "I", Cond.methodLink RX4 63 yX4_more, Cond.static yX4_more, Cond.code yX4_more cX4_more 4 (some (.array .int)), Cond.methodLink RX4 67 yX4_after, Cond.instanceMethod yX4_after, Cond.selects RX4 yX4_after yX4_after, Cond.code yX4_after cX4_after 3 (some .boolean), Cond.fieldLink RX4 40 "TapePrinterLaw$Sim" "unshifts" "Z", Cond.methodLink RL 63 yX4_more, Cond.methodLink RL 67 yX3_punch, Cond.instanceMethod yX3_punch, Cond.selects RX3 yX3_punch yX3_punch, Cond.code yX3_punch cX3_punch 2 (some .int), Cond.classLink RX3 99 "java/lang/IllegalStateException"]
def wsL_build_r9 : List Cond := [Cond.initialized "java/lang/IllegalStateException", Cond.fieldLink RX3 28 "TapePrinter" "strip" "LTapePrinter$Row;", Cond.methodLink RX3 96 yX0_room, Cond.instanceMethod yX0_room, Cond.selects RX0 yX0_room yX0_room, Cond.code yX0_room cX0_room 1 (some .int), Cond.methodLink RX3 104 yX0_add, Cond.methodLink RX3 107 yX0_size, Cond.instanceMethod yX0_size, Cond.selects RX0 yX0_size yX0_size, Cond.code yX0_size cX0_size 1 (some .int), Cond.methodLink RL 70 yX4_shifts, Cond.instanceMethod yX4_shifts, Cond.selects RX4 yX4_shifts yX4_shifts, Cond.code yX4_shifts cX4_shifts 3 (some (.array .boolean)), Cond.methodLink RL 74 yX3_type, Cond.instanceMethod yX3_type, Cond.selects RX3 yX3_type yX3_type, Cond.code yX3_type cX3_type 5 (some .int), Cond.methodLink RX3 32 yX3_isCharacter, Cond.static yX3_isCharacter, Cond.code yX3_isCharacter cX3_isCharacter 1 (some .boolean), Cond.methodLink RX3 110 yX3_isFigure, Cond.static yX3_isFigure]
def wsL_build_r10 : List Cond := [Cond.code yX3_isFigure cX3_isFigure 1 (some .boolean), Cond.methodLink RX3 43 yX3_codeOf, Cond.static yX3_codeOf, Cond.code yX3_codeOf cX3_codeOf 1 (some .int), Cond.fieldLink RX3 207 "TapePrinter" "CODES" "[I", Cond.methodLink RX3 116 yX3_figuresAtEnd, Cond.instanceMethod yX3_figuresAtEnd, Cond.selects RX3 yX3_figuresAtEnd yX3_figuresAtEnd, Cond.code yX3_figuresAtEnd cX3_figuresAtEnd 1 (some .boolean), Cond.methodLink RX3 174 yX3_figuresAhead, Cond.instanceMethod yX3_figuresAhead, Cond.selects RX3 yX3_figuresAhead yX3_figuresAhead, Cond.code yX3_figuresAhead cX3_figuresAhead 4 (some .boolean), Cond.methodLink RX3 127 yX0_at, Cond.methodLink RL 77 yX3_rub, Cond.instanceMethod yX3_rub, Cond.selects RX3 yX3_rub yX3_rub, Cond.code yX3_rub cX3_rub 3 (some .int), Cond.methodLink RX3 122 yX0_has, Cond.methodLink RX3 130 yX0_change, Cond.methodLink RL 83 yX3_wind, Cond.instanceMethod yX3_wind, Cond.selects RX3 yX3_wind yX3_wind, Cond.code yX3_wind cX3_wind 3 (some .int)]
def wsL_build_r11 : List Cond := [Cond.fieldLink RX3 135 "TapePrinter" "reader" "I", Cond.methodLink RL 86 yX3_run, Cond.instanceMethod yX3_run, Cond.selects RX3 yX3_run yX3_run, Cond.code yX3_run cX3_run 4 (some .int), Cond.methodLink RX3 139 Lib.Math.min.name, Cond.static Lib.Math.min.name, Cond.initialized "java/lang/Math", Cond.code Lib.Math.min.name Lib.Math.min.code 2 (some .int)]
def wsL_build : List Cond := .code yL_build cL_build 4 (some (.object "TapePrinterLaw$Sim")) :: ((wsL_build_r1 ++ (wsL_build_r2 ++ (wsL_build_r3 ++ (wsL_build_r4 ++ (wsL_build_r5 ++ (wsL_build_r6 ++ (wsL_build_r7 ++ (wsL_build_r8 ++ (wsL_build_r9 ++ (wsL_build_r10 ++ wsL_build_r11)))))))))) ++ wsX40 ++ wsX30 ++ wsX20 ++ wsX00 ++ wsX10 ++ (vx_atS RX3 40 "java/lang/IndexOutOfBoundsException" ["java/lang/RuntimeException", "java/lang/Exception"]).filter goodWord ++ (vx_atS RX3 71 "java/lang/IllegalArgumentException" ["java/lang/RuntimeException", "java/lang/Exception"]).filter goodWord ++ (vx_atS RX3 103 "java/lang/IllegalStateException" ["java/lang/RuntimeException", "java/lang/Exception"]).filter goodWord)
def wsL_law0_r1 : List Cond := [Cond.classLink RL 36 RX3, Cond.instantiable RX3 10, Cond.initialized RX3, Cond.arrayClass .int, Cond.methodLink RL 116 Lib.Math.min.name, Cond.static Lib.Math.min.name, Cond.initialized "java/lang/Math", Cond.code Lib.Math.min.name Lib.Math.min.code 2 (some .int), Cond.fieldLink RL 19 "TapePrinterLaw$Sim" "tape" "[I", Cond.fieldLink RL 80 "TapePrinterLaw$Sim" "reader" "I", Cond.methodLink RL 98 yX3_init, Cond.instanceMethod yX3_init, Cond.code yX3_init cX3_init 1 none, Cond.methodLink RX3 1 objectInit, Cond.instanceMethod objectInit, Cond.code objectInit ⟨#[0xb1]⟩ 1 none, Cond.classLink RX3 7 RX2, Cond.instantiable RX2 3, Cond.initialized RX2, Cond.fieldLink RX3 10 "TapePrinter" "wire" "LTapePrinter$Wire;", Cond.classLink RX3 16 RX1, Cond.instantiable RX1 3, Cond.initialized RX1, Cond.fieldLink RX3 19 "TapePrinter" "sheet" "LTapePrinter$Sheet;"]
def wsL_law0_r2 : List Cond := [Cond.classLink RX3 23 RX0, Cond.instantiable RX0 2, Cond.initialized RX0, Cond.fieldLink RX3 28 "TapePrinter" "strip" "LTapePrinter$Row;", Cond.methodLink RX3 9 yX2_init, Cond.instanceMethod yX2_init, Cond.code yX2_init cX2_init 2 none, Cond.methodLink RX2 3 objectInit, Cond.classLink RX2 9 RX0, Cond.fieldLink RX2 14 "TapePrinter$Wire" "late" "LTapePrinter$Row;", Cond.fieldLink RX2 20 "TapePrinter$Wire" "garbled" "LTapePrinter$Row;", Cond.methodLink RX2 11 yX0_init, Cond.instanceMethod yX0_init, Cond.code yX0_init cX0_init 2 none, Cond.methodLink RX0 1 objectInit, Cond.fieldLink RX0 7 "TapePrinter$Row" "values" "[I", Cond.methodLink RX2 23 yX0_add, Cond.instanceMethod yX0_add, Cond.selects RX0 yX0_add yX0_add, Cond.code yX0_add cX0_add 2 (some .boolean), Cond.fieldLink RX0 13 "TapePrinter$Row" "size" "I", Cond.methodLink RX3 18 yX1_init, Cond.instanceMethod yX1_init, Cond.code yX1_init cX1_init 2 none]
def wsL_law0_r3 : List Cond := [Cond.methodLink RX1 3 objectInit, Cond.classLink RX1 9 RX0, Cond.fieldLink RX1 11 "TapePrinter$Sheet" "rows" "[LTapePrinter$Row;", Cond.fieldLink RX1 17 "TapePrinter$Sheet" "used" "I", Cond.methodLink RX1 21 yX0_init, Cond.methodLink RX3 25 yX0_init, Cond.methodLink RL 99 yL_build, Cond.static yL_build, Cond.initialized RL, Cond.code yL_build cL_build 4 (some (.object "TapePrinterLaw$Sim")), Cond.classLink RL 20 RX4, Cond.instantiable RX4 14, Cond.initialized RX4, Cond.instanceMethod yX4_init, Cond.code yX4_init cX4_init 1 none, Cond.methodLink RX4 1 objectInit, Cond.fieldLink RX4 13 "TapePrinterLaw$Sim" "letters" "[I", Cond.fieldLink RX4 19 "TapePrinterLaw$Sim" "figures" "[I", Cond.classLink RX4 22 "[I", Cond.fieldLink RX4 23 "TapePrinterLaw$Sim" "page" "[[I", Cond.fieldLink RX4 27 "TapePrinterLaw$Sim" "late" "[I", Cond.fieldLink RX4 30 "TapePrinterLaw$Sim" "garble" "[I", Cond.fieldLink RX4 33 "TapePrinterLaw$Sim" "tape" "[I", Cond.static yL_characters]
def wsL_law0_r4 : List Cond := [Cond.code yL_characters cL_characters 4 (some (.array .int)), Cond.methodLink RL 15 yL_codes, Cond.static yL_codes, Cond.code yL_codes cL_codes 3 (some (.array .int)), Cond.methodLink RL 9 yL_isType, Cond.static yL_isType, Cond.code yL_isType cL_isType 1 (some .boolean), Cond.methodLink RL 90 yL_cell, Cond.static yL_cell, Cond.code yL_cell cL_cell 2 (some .int), Cond.constant RL 8 (790386105), Cond.methodLink RL 94 yL_act, Cond.static yL_act, Cond.code yL_act cL_act 17 (some .boolean), Cond.fieldLink RL 29 "TapePrinterLaw$Sim" "late" "[I", Cond.fieldLink RL 32 "TapePrinterLaw$Sim" "garble" "[I", Cond.fieldLink RL 41 "TapePrinterLaw$Sim" "play" "I", Cond.fieldLink RL 49 "TapePrinterLaw$Sim" "unshifts" "Z", Cond.methodLink RL 25 yL_below, Cond.static yL_below, Cond.code yL_below cL_below 2 (some .int), Cond.constant RL 7 (2147483647), Cond.methodLink RL 35 yX3_setLine, Cond.instanceMethod yX3_setLine]
def wsL_law0_r5 : List Cond := [Cond.selects RX3 yX3_setLine yX3_setLine, Cond.code yX3_setLine cX3_setLine 5 (some .int), Cond.classLink RX3 36 "java/lang/IndexOutOfBoundsException", Cond.initialized "java/lang/IndexOutOfBoundsException", Cond.classLink RX3 67 "java/lang/IllegalArgumentException", Cond.initialized "java/lang/IllegalArgumentException", Cond.methodLink RX3 47 yX3_isCode, Cond.static yX3_isCode, Cond.code yX3_isCode cX3_isCode 1 (some .boolean), Cond.methodLink RX3 74 yX2_lateAt, Cond.instanceMethod yX2_lateAt, Cond.selects RX2 yX2_lateAt yX2_lateAt, Cond.code yX2_lateAt cX2_lateAt 2 (some .int), Cond.methodLink RX2 31 yX0_at, Cond.instanceMethod yX0_at, Cond.selects RX0 yX0_at yX0_at, Cond.code yX0_at cX0_at 2 (some .int), Cond.methodLink RX0 17 yX0_has, Cond.instanceMethod yX0_has, Cond.selects RX0 yX0_has yX0_has, Cond.code yX0_has cX0_has 2 (some .boolean), Cond.methodLink RX3 77 yX2_change, Cond.instanceMethod yX2_change, Cond.selects RX2 yX2_change yX2_change]
def wsL_law0_r6 : List Cond := [Cond.code yX2_change cX2_change 4 none, Cond.methodLink RX2 35 yX0_change, Cond.instanceMethod yX0_change, Cond.selects RX0 yX0_change yX0_change, Cond.code yX0_change cX0_change 3 none, Cond.methodLink RL 45 yX3_setPlay, Cond.instanceMethod yX3_setPlay, Cond.selects RX3 yX3_setPlay yX3_setPlay, Cond.code yX3_setPlay cX3_setPlay 3 (some .int), Cond.methodLink RX3 83 yX2_play, Cond.instanceMethod yX2_play, Cond.selects RX2 yX2_play yX2_play, Cond.code yX2_play cX2_play 1 (some .int), Cond.fieldLink RX2 27 "TapePrinter$Wire" "play" "I", Cond.methodLink RX3 87 yX2_changePlay, Cond.instanceMethod yX2_changePlay, Cond.selects RX2 yX2_changePlay yX2_changePlay, Cond.code yX2_changePlay cX2_changePlay 2 none, Cond.methodLink RL 53 yX3_setUnshift, Cond.instanceMethod yX3_setUnshift, Cond.selects RX3 yX3_setUnshift yX3_setUnshift, Cond.code yX3_setUnshift cX3_setUnshift 3 (some .boolean), Cond.fieldLink RX3 90 "TapePrinter" "unshifts" "Z", Cond.methodLink RL 57 yX3_receive]
def wsL_law0_r7 : List Cond := [Cond.instanceMethod yX3_receive, Cond.selects RX3 yX3_receive yX3_receive, Cond.code yX3_receive cX3_receive 2 (some .int), Cond.methodLink RX3 93 yX3_takeIn, Cond.instanceMethod yX3_takeIn, Cond.selects RX3 yX3_takeIn yX3_takeIn, Cond.code yX3_takeIn cX3_takeIn 3 (some .int), Cond.fieldLink RX3 158 "TapePrinter" "came" "I", Cond.fieldLink RX3 198 "TapePrinter" "misread" "I", Cond.methodLink RX3 161 yX2_readAs, Cond.instanceMethod yX2_readAs, Cond.selects RX2 yX2_readAs yX2_readAs, Cond.code yX2_readAs cX2_readAs 6 (some .int), Cond.methodLink RX3 220 yX3_obey, Cond.instanceMethod yX3_obey, Cond.selects RX3 yX3_obey yX3_obey, Cond.code yX3_obey cX3_obey 3 none, Cond.fieldLink RX3 61 "TapePrinter" "figures" "Z", Cond.fieldLink RX3 201 "TapePrinter" "lost" "I", Cond.fieldLink RX3 204 "TapePrinter" "bells" "I", Cond.methodLink RX3 52 yX3_characterOf, Cond.static yX3_characterOf, Cond.code yX3_characterOf cX3_characterOf 3 (some .int), Cond.methodLink RX3 211 yX3_characterInLetters]
def wsL_law0_r8 : List Cond := [Cond.static yX3_characterInLetters, Cond.code yX3_characterInLetters cX3_characterInLetters 1 (some .int), Cond.fieldLink RX3 214 "TapePrinter" "CHARACTERS" "[I", Cond.methodLink RX3 113 yX3_dependsOnShift, Cond.static yX3_dependsOnShift, Cond.code yX3_dependsOnShift cX3_dependsOnShift 2 (some .boolean), Cond.methodLink RX3 223 yX1_beginLine, Cond.instanceMethod yX1_beginLine, Cond.selects RX1 yX1_beginLine yX1_beginLine, Cond.code yX1_beginLine cX1_beginLine 2 none, Cond.fieldLink RX1 24 "TapePrinter$Sheet" "first" "I", Cond.methodLink RX1 27 yX1_row, Cond.instanceMethod yX1_row, Cond.selects RX1 yX1_row yX1_row, Cond.code yX1_row cX1_row 3 (some (.object "TapePrinter$Row")), Cond.methodLink RX1 35 yX0_clear, Cond.instanceMethod yX0_clear, Cond.selects RX0 yX0_clear yX0_clear, Cond.code yX0_clear cX0_clear 1 none, Cond.methodLink RX3 226 yX1_add, Cond.instanceMethod yX1_add, Cond.selects RX1 yX1_add yX1_add, Cond.code yX1_add cX1_add 3 (some .boolean), Cond.methodLink RX1 31 yX0_add]
def wsL_law0_r9 : List Cond := [Cond.methodLink RX3 164 yX3_figuresBehind, Cond.instanceMethod yX3_figuresBehind, Cond.selects RX3 yX3_figuresBehind yX3_figuresBehind, Cond.code yX3_figuresBehind cX3_figuresBehind 3 (some .boolean), Cond.methodLink RX3 217 yX3_shiftsToLetters, Cond.instanceMethod yX3_shiftsToLetters, Cond.selects RX3 yX3_shiftsToLetters yX3_shiftsToLetters, Cond.code yX3_shiftsToLetters cX3_shiftsToLetters 2 (some .boolean), Cond.methodLink RL 60 yX4_come, Cond.instanceMethod yX4_come, Cond.selects RX4 yX4_come yX4_come, Cond.code yX4_come cX4_come 6 (some .int), Cond.fieldLink RX4 44 "TapePrinterLaw$Sim" "came" "I", Cond.fieldLink RX4 51 "TapePrinterLaw$Sim" "wrong" "I", Cond.fieldLink RX4 54 "TapePrinterLaw$Sim" "rang" "I", Cond.fieldLink RX4 57 "TapePrinterLaw$Sim" "isFigures" "Z", Cond.fieldLink RX4 60 "TapePrinterLaw$Sim" "lost" "I", Cond.methodLink RX4 47 yX4_read, Cond.instanceMethod yX4_read, Cond.selects RX4 yX4_read yX4_read, Cond.code yX4_read cX4_read 8 (some .int), Cond.arrayClass .boolean, Cond.fieldLink RX4 36 "TapePrinterLaw$Sim" "play" "I", Cond.methodLink RX4 63 yX4_more]
def wsL_law0_r10 : List Cond := [Cond.static yX4_more, Cond.code yX4_more cX4_more 4 (some (.array .int)), Cond.methodLink RX4 67 yX4_after, Cond.instanceMethod yX4_after, Cond.selects RX4 yX4_after yX4_after, Cond.code yX4_after cX4_after 3 (some .boolean), Cond.fieldLink RX4 40 "TapePrinterLaw$Sim" "unshifts" "Z", Cond.methodLink RL 63 yX4_more, Cond.methodLink RL 67 yX3_punch, Cond.instanceMethod yX3_punch, Cond.selects RX3 yX3_punch yX3_punch, Cond.code yX3_punch cX3_punch 2 (some .int), Cond.classLink RX3 99 "java/lang/IllegalStateException", Cond.initialized "java/lang/IllegalStateException", Cond.methodLink RX3 96 yX0_room, Cond.instanceMethod yX0_room, Cond.selects RX0 yX0_room yX0_room, Cond.code yX0_room cX0_room 1 (some .int), Cond.methodLink RX3 104 yX0_add, Cond.methodLink RX3 107 yX0_size, Cond.instanceMethod yX0_size, Cond.selects RX0 yX0_size yX0_size, Cond.code yX0_size cX0_size 1 (some .int), Cond.methodLink RL 70 yX4_shifts]
def wsL_law0_r11 : List Cond := [Cond.instanceMethod yX4_shifts, Cond.selects RX4 yX4_shifts yX4_shifts, Cond.code yX4_shifts cX4_shifts 3 (some (.array .boolean)), Cond.methodLink RL 74 yX3_type, Cond.instanceMethod yX3_type, Cond.selects RX3 yX3_type yX3_type, Cond.code yX3_type cX3_type 5 (some .int), Cond.methodLink RX3 32 yX3_isCharacter, Cond.static yX3_isCharacter, Cond.code yX3_isCharacter cX3_isCharacter 1 (some .boolean), Cond.methodLink RX3 110 yX3_isFigure, Cond.static yX3_isFigure, Cond.code yX3_isFigure cX3_isFigure 1 (some .boolean), Cond.methodLink RX3 43 yX3_codeOf, Cond.static yX3_codeOf, Cond.code yX3_codeOf cX3_codeOf 1 (some .int), Cond.fieldLink RX3 207 "TapePrinter" "CODES" "[I", Cond.methodLink RX3 116 yX3_figuresAtEnd, Cond.instanceMethod yX3_figuresAtEnd, Cond.selects RX3 yX3_figuresAtEnd yX3_figuresAtEnd, Cond.code yX3_figuresAtEnd cX3_figuresAtEnd 1 (some .boolean), Cond.methodLink RX3 174 yX3_figuresAhead, Cond.instanceMethod yX3_figuresAhead, Cond.selects RX3 yX3_figuresAhead yX3_figuresAhead]
def wsL_law0_r12 : List Cond := [Cond.code yX3_figuresAhead cX3_figuresAhead 4 (some .boolean), Cond.methodLink RX3 127 yX0_at, Cond.methodLink RL 77 yX3_rub, Cond.instanceMethod yX3_rub, Cond.selects RX3 yX3_rub yX3_rub, Cond.code yX3_rub cX3_rub 3 (some .int), Cond.methodLink RX3 122 yX0_has, Cond.methodLink RX3 130 yX0_change, Cond.methodLink RL 83 yX3_wind, Cond.instanceMethod yX3_wind, Cond.selects RX3 yX3_wind yX3_wind, Cond.code yX3_wind cX3_wind 3 (some .int), Cond.fieldLink RX3 135 "TapePrinter" "reader" "I", Cond.methodLink RL 86 yX3_run, Cond.instanceMethod yX3_run, Cond.selects RX3 yX3_run yX3_run, Cond.code yX3_run cX3_run 4 (some .int), Cond.methodLink RX3 139 Lib.Math.min.name, Cond.methodLink RL 103 yX3_count, Cond.instanceMethod yX3_count, Cond.selects RX3 yX3_count yX3_count, Cond.code yX3_count cX3_count 2 (some .int), Cond.methodLink RX3 155 yX3_counted, Cond.instanceMethod yX3_counted]
def wsL_law0_r13 : List Cond := [Cond.selects RX3 yX3_counted yX3_counted, Cond.code yX3_counted cX3_counted 2 (some .int), Cond.methodLink RX3 177 yX1_lines, Cond.instanceMethod yX1_lines, Cond.selects RX1 yX1_lines yX1_lines, Cond.code yX1_lines cX1_lines 1 (some .int), Cond.methodLink RX3 180 yX1_characters, Cond.instanceMethod yX1_characters, Cond.selects RX1 yX1_characters yX1_characters, Cond.code yX1_characters cX1_characters 4 (some .int), Cond.methodLink RX1 38 yX0_size, Cond.methodLink RL 106 yX3_length, Cond.instanceMethod yX3_length, Cond.selects RX3 yX3_length yX3_length, Cond.code yX3_length cX3_length 3 (some .int), Cond.methodLink RX3 145 yX1_row, Cond.methodLink RL 109 yX3_would, Cond.instanceMethod yX3_would, Cond.selects RX3 yX3_would yX3_would, Cond.code yX3_would cX3_would 2 (some .int), Cond.methodLink RL 112 yX3_character, Cond.instanceMethod yX3_character, Cond.selects RX3 yX3_character yX3_character, Cond.code yX3_character cX3_character 3 (some .int)]
def wsL_law0_r14 : List Cond := [Cond.methodLink RL 121 yX3_page, Cond.instanceMethod yX3_page, Cond.selects RX3 yX3_page yX3_page, Cond.code yX3_page cX3_page 4 (some .int), Cond.methodLink RL 124 yX3_wrong, Cond.instanceMethod yX3_wrong, Cond.selects RX3 yX3_wrong yX3_wrong, Cond.code yX3_wrong cX3_wrong 4 (some .int), Cond.methodLink RL 128 yX3_idle, Cond.instanceMethod yX3_idle, Cond.selects RX3 yX3_idle yX3_idle, Cond.code yX3_idle cX3_idle 6 (some .int), Cond.methodLink RX3 168 yX3_isShift, Cond.static yX3_isShift, Cond.code yX3_isShift cX3_isShift 1 (some .boolean), Cond.methodLink RX3 171 yX3_servesBehind, Cond.instanceMethod yX3_servesBehind, Cond.selects RX3 yX3_servesBehind yX3_servesBehind, Cond.code yX3_servesBehind cX3_servesBehind 4 (some .boolean), Cond.methodLink RL 131 yX3_tape, Cond.instanceMethod yX3_tape, Cond.selects RX3 yX3_tape yX3_tape, Cond.code yX3_tape cX3_tape 2 (some .int), Cond.methodLink RL 133 yX3_prints]
def wsL_law0_r15 : List Cond := [Cond.instanceMethod yX3_prints, Cond.selects RX3 yX3_prints yX3_prints, Cond.code yX3_prints cX3_prints 2 (some .int), Cond.methodLink RL 136 yX4_isSame, Cond.instanceMethod yX4_isSame, Cond.selects RX4 yX4_isSame yX4_isSame, Cond.code yX4_isSame cX4_isSame 6 (some .boolean), Cond.fieldLink RX4 88 "TapePrinterLaw$Sim" "reader" "I", Cond.methodLink RX4 71 yX3_length, Cond.methodLink RX4 77 yX3_page, Cond.methodLink RX4 79 yX4_shifts, Cond.methodLink RX4 83 yX3_tape, Cond.methodLink RX4 85 yX3_prints, Cond.methodLink RX4 91 yX3_count, Cond.methodLink RX4 94 yX3_mean, Cond.instanceMethod yX3_mean, Cond.selects RX3 yX3_mean yX3_mean, Cond.code yX3_mean cX3_mean 2 (some .double)]
def wsL_law0 : List Cond := (wsL_law0_r1 ++ (wsL_law0_r2 ++ (wsL_law0_r3 ++ (wsL_law0_r4 ++ (wsL_law0_r5 ++ (wsL_law0_r6 ++ (wsL_law0_r7 ++ (wsL_law0_r8 ++ (wsL_law0_r9 ++ (wsL_law0_r10 ++ (wsL_law0_r11 ++ (wsL_law0_r12 ++ (wsL_law0_r13 ++ (wsL_law0_r14 ++ wsL_law0_r15)))))))))))))) ++ wsX30 ++ wsX40 ++ wsX20 ++ wsX10 ++ wsX00 ++ ([] : List Cond)
def wsL_law : List Cond := wsL_law0 ++ (vx_atS RX3 40 "java/lang/IndexOutOfBoundsException" ["java/lang/RuntimeException", "java/lang/Exception"]).filter goodWord ++ (vx_atS RX3 71 "java/lang/IllegalArgumentException" ["java/lang/RuntimeException", "java/lang/Exception"]).filter goodWord ++ (vx_atS RX3 103 "java/lang/IllegalStateException" ["java/lang/RuntimeException", "java/lang/Exception"]).filter goodWord
theorem goodIn_co {big ws : List Cond} {c : Cond} (hm : c ∈ big) (hg : goodWord c = true) (h : GoodIn big ws) : GoodIn big (c :: ws) := fun w hw => (List.mem_cons.mp hw).elim (fun e => by rw [e]; exact ⟨hm, good_of_word hg⟩) (h w)
theorem in_pl {big ws : List Cond} (ps : List Nat) (h : ws = ps.filterMap (fun i => big[i]?)) : ∀ w ∈ ws, w ∈ big := by
  intro w hw
  rw [h] at hw
  obtain ⟨i, -, hi⟩ := List.mem_filterMap.mp hw
  exact List.mem_of_getElem? hi
theorem in_app {big a b : List Cond} (ha : ∀ w ∈ a, w ∈ big) (hb : ∀ w ∈ b, w ∈ big) : ∀ w ∈ a ++ b, w ∈ big := fun w h => (List.mem_append.mp h).elim (ha w) (hb w)
set_option maxRecDepth 20000 in
theorem wsL_law_q1 : ∀ w ∈ wsL_law0_r1, w ∈ lw_tbl := in_pl [22, 23, 10, 49, 547, 287, 21, 288, 511, 513, 24, 25, 26, 27, 28, 29, 30, 31, 11, 85, 64, 65, 13, 86] (by decide +kernel)
set_option maxRecDepth 20000 in
theorem wsL_law_q2 : ∀ w ∈ wsL_law0_r2, w ∈ lw_tbl := in_pl [83, 37, 12, 87, 32, 33, 34, 35, 36, 54, 55, 38, 39, 40, 41, 42, 50, 51, 52, 53, 43, 66, 67, 68] (by decide +kernel)
set_option maxRecDepth 20000 in
theorem wsL_law_q3 : ∀ w ∈ wsL_law0_r3, w ∈ lw_tbl := in_pl [69, 70, 73, 75, 72, 84, 486, 487, 9, 488, 489, 490, 14, 492, 493, 494, 498, 499, 365, 500, 506, 508, 510, 496] (by decide +kernel)
set_option maxRecDepth 100000 in
theorem wsL_law_act : lw_tbl[402]? = some (Cond.code yL_act cL_act 17 (some .boolean)) := by rfl
set_option maxRecDepth 20000 in
theorem wsL_law_q4 : ∀ w ∈ wsL_law0_r4, w ∈ lw_tbl := by
  show ∀ w ∈ [Cond.code yL_characters cL_characters 4 (some (.array .int)), Cond.methodLink RL 15 yL_codes, Cond.static yL_codes, Cond.code yL_codes cL_codes 3 (some (.array .int)), Cond.methodLink RL 9 yL_isType, Cond.static yL_isType, Cond.code yL_isType cL_isType 1 (some .boolean), Cond.methodLink RL 90 yL_cell, Cond.static yL_cell, Cond.code yL_cell cL_cell 2 (some .int), Cond.constant RL 8 (790386105), Cond.methodLink RL 94 yL_act, Cond.static yL_act] ++ (Cond.code yL_act cL_act 17 (some .boolean) :: [Cond.fieldLink RL 29 "TapePrinterLaw$Sim" "late" "[I", Cond.fieldLink RL 32 "TapePrinterLaw$Sim" "garble" "[I", Cond.fieldLink RL 41 "TapePrinterLaw$Sim" "play" "I", Cond.fieldLink RL 49 "TapePrinterLaw$Sim" "unshifts" "Z", Cond.methodLink RL 25 yL_below, Cond.static yL_below, Cond.code yL_below cL_below 2 (some .int), Cond.constant RL 7 (2147483647), Cond.methodLink RL 35 yX3_setLine, Cond.instanceMethod yX3_setLine]), w ∈ lw_tbl
  exact in_app (in_pl [497, 459, 460, 461, 462, 463, 464, 396, 397, 398, 399, 400, 401] (by decide +kernel)) (List.forall_mem_cons.mpr ⟨List.mem_of_getElem? wsL_law_act, in_pl [507, 509, 505, 503, 392, 393, 394, 395, 403, 404] (by decide +kernel)⟩)
set_option maxRecDepth 20000 in
theorem wsL_law_q5 : ∀ w ∈ wsL_law0_r5, w ∈ lw_tbl := in_pl [405, 406, 123, 18, 266, 19, 120, 121, 122, 410, 411, 412, 413, 214, 215, 216, 217, 218, 219, 220, 221, 414, 415, 416] (by decide +kernel)
set_option maxRecDepth 20000 in
theorem wsL_law_q6 : ∀ w ∈ wsL_law0_r6, w ∈ lw_tbl := in_pl [417, 418, 259, 260, 261, 419, 420, 421, 422, 326, 327, 328, 329, 56, 424, 425, 426, 427, 428, 429, 430, 431, 90, 202] (by decide +kernel)
set_option maxRecDepth 20000 in
theorem wsL_law_q7 : ∀ w ∈ wsL_law0_r7, w ∈ lw_tbl := in_pl [203, 204, 205, 206, 208, 1, 209, 91, 92, 210, 211, 212, 213, 222, 224, 2, 225, 89, 93, 94, 191, 192, 193, 194] (by decide +kernel)
set_option maxRecDepth 20000 in
theorem wsL_law_q8 : ∀ w ∈ wsL_law0_r8, w ∈ lw_tbl := in_pl [195, 196, 197, 199, 200, 201, 226, 227, 228, 229, 74, 230, 231, 232, 233, 234, 235, 236, 237, 238, 239, 240, 241, 242] (by decide +kernel)
set_option maxRecDepth 20000 in
theorem wsL_law_q9 : ∀ w ∈ wsL_law0_r9, w ∈ lw_tbl := in_pl [243, 245, 3, 246, 247, 249, 4, 250, 357, 358, 359, 360, 514, 515, 517, 501, 516, 361, 362, 363, 364, 374, 504, 367] (by decide +kernel)
set_option maxRecDepth 20000 in
theorem wsL_law_q10 : ∀ w ∈ wsL_law0_r10, w ∈ lw_tbl := in_pl [368, 369, 370, 371, 372, 373, 502, 432, 433, 434, 435, 436, 441, 20, 437, 438, 439, 440, 457, 282, 283, 284, 285, 458] (by decide +kernel)
set_option maxRecDepth 20000 in
theorem wsL_law_q11 : ∀ w ∈ wsL_law0_r11, w ∈ lw_tbl := in_pl [382, 383, 384, 465, 466, 467, 468, 469, 470, 471, 473, 474, 475, 476, 477, 478, 479, 481, 483, 8, 484, 353, 355, 7] (by decide +kernel)
set_option maxRecDepth 20000 in
theorem wsL_law_q12 : ∀ w ∈ wsL_law0_r12, w ∈ lw_tbl := in_pl [356, 257, 251, 252, 253, 254, 255, 258, 289, 290, 291, 292, 88, 262, 263, 264, 265, 286, 308, 309, 310, 311, 313, 315] (by decide +kernel)
set_option maxRecDepth 20000 in
theorem wsL_law_q13 : ∀ w ∈ wsL_law0_r13, w ∈ lw_tbl := in_pl [5, 316, 317, 318, 319, 320, 321, 322, 323, 324, 325, 303, 304, 305, 306, 301, 330, 331, 332, 333, 116, 117, 118, 119] (by decide +kernel)
set_option maxRecDepth 20000 in
theorem wsL_law_q14 : ∀ w ∈ wsL_law0_r14, w ∈ lw_tbl := in_pl [297, 298, 299, 300, 334, 335, 336, 337, 338, 339, 340, 341, 342, 343, 344, 345, 347, 6, 348, 293, 294, 295, 296, 349] (by decide +kernel)
set_option maxRecDepth 20000 in
theorem wsL_law_q15 : ∀ w ∈ wsL_law0_r15, w ∈ lw_tbl := in_pl [350, 351, 352, 375, 376, 377, 378, 512, 379, 380, 381, 385, 386, 387, 388, 389, 390, 391] (by decide +kernel)
set_option maxRecDepth 20000 in
theorem wsL_law_f3 : ∀ w ∈ wsX30, w ∈ lw_tbl := in_pl [95, 97, 99, 101, 103, 105, 107, 109, 111, 113] (by decide +kernel)
set_option maxRecDepth 20000 in
theorem wsL_law_f4 : ∀ w ∈ wsX40, w ∈ lw_tbl := in_pl [518, 520, 522, 524, 526, 528, 530, 532, 534, 536, 538, 540, 542, 544] (by decide +kernel)
set_option maxRecDepth 20000 in
theorem wsL_law_f2 : ∀ w ∈ wsX20, w ∈ lw_tbl := in_pl [57, 59, 61] (by decide +kernel)
set_option maxRecDepth 20000 in
theorem wsL_law_f1 : ∀ w ∈ wsX10, w ∈ lw_tbl := in_pl [76, 78, 80] (by decide +kernel)
set_option maxRecDepth 20000 in
theorem wsL_law_f0 : ∀ w ∈ wsX00, w ∈ lw_tbl := in_pl [44, 46] (by decide +kernel)
theorem wsL_law_in0 : ∀ w ∈ wsL_law0, w ∈ lw_tbl := in_app (in_app (in_app (in_app (in_app (in_app (in_app wsL_law_q1 (in_app wsL_law_q2 (in_app wsL_law_q3 (in_app wsL_law_q4 (in_app wsL_law_q5 (in_app wsL_law_q6 (in_app wsL_law_q7 (in_app wsL_law_q8 (in_app wsL_law_q9 (in_app wsL_law_q10 (in_app wsL_law_q11 (in_app wsL_law_q12 (in_app wsL_law_q13 (in_app wsL_law_q14 (wsL_law_q15))))))))))))))) wsL_law_f3) wsL_law_f4) wsL_law_f2) wsL_law_f1) wsL_law_f0) (fun _ h => nomatch h)
theorem wsL_law_x0 : ∀ w ∈ (vx_atS RX3 40 "java/lang/IndexOutOfBoundsException" ["java/lang/RuntimeException", "java/lang/Exception"]).filter goodWord, w ∈ lw_tbl := by decide +kernel
theorem wsL_law_x1 : ∀ w ∈ (vx_atS RX3 71 "java/lang/IllegalArgumentException" ["java/lang/RuntimeException", "java/lang/Exception"]).filter goodWord, w ∈ lw_tbl := by decide +kernel
theorem wsL_law_x2 : ∀ w ∈ (vx_atS RX3 103 "java/lang/IllegalStateException" ["java/lang/RuntimeException", "java/lang/Exception"]).filter goodWord, w ∈ lw_tbl := by decide +kernel
theorem wsL_law_in : ∀ w ∈ wsL_law, w ∈ lw_tbl := fun w h => (List.mem_append.mp h).elim (fun h => (List.mem_append.mp h).elim (fun h => (List.mem_append.mp h).elim (fun h => wsL_law_in0 w h) (fun h => wsL_law_x0 w h)) (fun h => wsL_law_x1 w h)) (fun h => wsL_law_x2 w h)
theorem inlX0 : ∀ w ∈ wsX00, w ∈ wsL_law := fun _ h => List.mem_append_left _ (List.mem_append_left _ (List.mem_append_left _ (List.mem_append_left _ (List.mem_append_right _ h))))
theorem inX0 : ∀ w ∈ wsX00, w ∈ lw_tbl := fun w h => wsL_law_in w (inlX0 w h)
theorem inlX1 : ∀ w ∈ wsX10, w ∈ wsL_law := fun _ h => List.mem_append_left _ (List.mem_append_left _ (List.mem_append_left _ (List.mem_append_left _ (List.mem_append_left _ (List.mem_append_right _ h)))))
theorem inX1 : ∀ w ∈ wsX10, w ∈ lw_tbl := fun w h => wsL_law_in w (inlX1 w h)
theorem inlX2 : ∀ w ∈ wsX20, w ∈ wsL_law := fun _ h => List.mem_append_left _ (List.mem_append_left _ (List.mem_append_left _ (List.mem_append_left _ (List.mem_append_left _ (List.mem_append_left _ (List.mem_append_right _ h))))))
theorem inX2 : ∀ w ∈ wsX20, w ∈ lw_tbl := fun w h => wsL_law_in w (inlX2 w h)
theorem inlX3 : ∀ w ∈ wsX30, w ∈ wsL_law := fun _ h => List.mem_append_left _ (List.mem_append_left _ (List.mem_append_left _ (List.mem_append_left _ (List.mem_append_left _ (List.mem_append_left _ (List.mem_append_left _ (List.mem_append_left _ (List.mem_append_right _ h))))))))
theorem inX3 : ∀ w ∈ wsX30, w ∈ lw_tbl := fun w h => wsL_law_in w (inlX3 w h)
theorem inlX4 : ∀ w ∈ wsX40, w ∈ wsL_law := fun _ h => List.mem_append_left _ (List.mem_append_left _ (List.mem_append_left _ (List.mem_append_left _ (List.mem_append_left _ (List.mem_append_left _ (List.mem_append_left _ (List.mem_append_right _ h)))))))
theorem inX4 : ∀ w ∈ wsX40, w ∈ lw_tbl := fun w h => wsL_law_in w (inlX4 w h)
theorem inX5 : ∀ w ∈ wsX50, w ∈ lw_tbl := by decide +kernel
theorem inJ9 : ∀ w ∈ wsJ90, w ∈ lw_tbl := by decide +kernel
theorem inJ0 : ∀ w ∈ wsJ00, w ∈ lw_tbl := by decide +kernel
end
section
theorem dX0_init_0 : decode cX0_init 0 = .ok (.aload_n 0, 1) := by decide +kernel
theorem dX0_init_1 : decode cX0_init 1 = .ok (.invokespecial 1, 3) := by decide +kernel
theorem dX0_init_4 : decode cX0_init 4 = .ok (.aload_n 0, 1) := by decide +kernel
theorem dX0_init_5 : decode cX0_init 5 = .ok (.iload_n 1, 1) := by decide +kernel
theorem dX0_init_6 : decode cX0_init 6 = .ok (.ifCond .ge 7, 3) := by decide +kernel
theorem dX0_init_9 : decode cX0_init 9 = .ok (.iconst 0, 1) := by decide +kernel
theorem dX0_init_10 : decode cX0_init 10 = .ok (.goto 4, 3) := by decide +kernel
theorem dX0_init_13 : decode cX0_init 13 = .ok (.iload_n 1, 1) := by decide +kernel
theorem dX0_init_14 : decode cX0_init 14 = .ok (.newarray .int, 2) := by decide +kernel
theorem dX0_init_16 : decode cX0_init 16 = .ok (.putfield 7, 3) := by decide +kernel
theorem dX0_init_19 : decode cX0_init 19 = .ok (.return_, 1) := by decide +kernel
theorem dX0_size_0 : decode cX0_size 0 = .ok (.aload_n 0, 1) := by decide +kernel
theorem dX0_size_1 : decode cX0_size 1 = .ok (.getfield 13, 3) := by decide +kernel
theorem dX0_size_4 : decode cX0_size 4 = .ok (.ireturn, 1) := by decide +kernel
theorem dX0_room_0 : decode cX0_room 0 = .ok (.aload_n 0, 1) := by decide +kernel
theorem dX0_room_1 : decode cX0_room 1 = .ok (.getfield 7, 3) := by decide +kernel
theorem dX0_room_4 : decode cX0_room 4 = .ok (.arraylength, 1) := by decide +kernel
theorem dX0_room_5 : decode cX0_room 5 = .ok (.aload_n 0, 1) := by decide +kernel
theorem dX0_room_6 : decode cX0_room 6 = .ok (.getfield 13, 3) := by decide +kernel
theorem dX0_room_9 : decode cX0_room 9 = .ok (.isub, 1) := by decide +kernel
theorem dX0_room_10 : decode cX0_room 10 = .ok (.ireturn, 1) := by decide +kernel
theorem dX0_has_0 : decode cX0_has 0 = .ok (.iload_n 1, 1) := by decide +kernel
theorem dX0_has_1 : decode cX0_has 1 = .ok (.ifCond .lt 24, 3) := by decide +kernel
theorem dX0_has_4 : decode cX0_has 4 = .ok (.iload_n 1, 1) := by decide +kernel
theorem dX0_has_5 : decode cX0_has 5 = .ok (.aload_n 0, 1) := by decide +kernel
theorem dX0_has_6 : decode cX0_has 6 = .ok (.getfield 13, 3) := by decide +kernel
theorem dX0_has_9 : decode cX0_has 9 = .ok (.if_icmp .ge 16, 3) := by decide +kernel
theorem dX0_has_12 : decode cX0_has 12 = .ok (.iload_n 1, 1) := by decide +kernel
theorem dX0_has_13 : decode cX0_has 13 = .ok (.aload_n 0, 1) := by decide +kernel
theorem dX0_has_14 : decode cX0_has 14 = .ok (.getfield 7, 3) := by decide +kernel
theorem dX0_has_17 : decode cX0_has 17 = .ok (.arraylength, 1) := by decide +kernel
theorem dX0_has_18 : decode cX0_has 18 = .ok (.if_icmp .ge 7, 3) := by decide +kernel
theorem dX0_has_21 : decode cX0_has 21 = .ok (.iconst 1, 1) := by decide +kernel
theorem dX0_has_22 : decode cX0_has 22 = .ok (.goto 4, 3) := by decide +kernel
theorem dX0_has_25 : decode cX0_has 25 = .ok (.iconst 0, 1) := by decide +kernel
theorem dX0_has_26 : decode cX0_has 26 = .ok (.ireturn, 1) := by decide +kernel
set_option maxRecDepth 20000 in
theorem ggX0_at_X0_has : GoodIn wsX0_at wsX0_has := goodIn_r _ [6, 7, 1, 8, 9] (by decide +kernel) (by decide +kernel)
set_option maxRecDepth 20000 in
theorem gX0_at_X0_has : GoodIn wsX0_at (wsV RX0 17 RX0 yX0_has wsX0_has) := goodIn_app (goodIn_of _ (by decide +kernel)) ggX0_at_X0_has
theorem dX0_at_0 : decode cX0_at 0 = .ok (.aload_n 0, 1) := by decide +kernel
theorem dX0_at_1 : decode cX0_at 1 = .ok (.iload_n 1, 1) := by decide +kernel
theorem dX0_at_2 : decode cX0_at 2 = .ok (.invokevirtual 17, 3) := by decide +kernel
theorem dX0_at_5 : decode cX0_at 5 = .ok (.ifCond .eq 12, 3) := by decide +kernel
theorem dX0_at_8 : decode cX0_at 8 = .ok (.aload_n 0, 1) := by decide +kernel
theorem dX0_at_9 : decode cX0_at 9 = .ok (.getfield 7, 3) := by decide +kernel
theorem dX0_at_12 : decode cX0_at 12 = .ok (.iload_n 1, 1) := by decide +kernel
theorem dX0_at_13 : decode cX0_at 13 = .ok (.iaload, 1) := by decide +kernel
theorem dX0_at_14 : decode cX0_at 14 = .ok (.goto 4, 3) := by decide +kernel
theorem dX0_at_17 : decode cX0_at 17 = .ok (.iconst 0, 1) := by decide +kernel
theorem dX0_at_18 : decode cX0_at 18 = .ok (.ireturn, 1) := by decide +kernel
set_option maxRecDepth 20000 in
theorem ggX0_change_X0_has : GoodIn wsX0_change wsX0_has := goodIn_r _ [6, 7, 1, 8, 9] (by decide +kernel) (by decide +kernel)
set_option maxRecDepth 20000 in
theorem gX0_change_X0_has : GoodIn wsX0_change (wsV RX0 17 RX0 yX0_has wsX0_has) := goodIn_app (goodIn_of _ (by decide +kernel)) ggX0_change_X0_has
theorem dX0_change_0 : decode cX0_change 0 = .ok (.aload_n 0, 1) := by decide +kernel
theorem dX0_change_1 : decode cX0_change 1 = .ok (.iload_n 1, 1) := by decide +kernel
theorem dX0_change_2 : decode cX0_change 2 = .ok (.invokevirtual 17, 3) := by decide +kernel
theorem dX0_change_5 : decode cX0_change 5 = .ok (.ifCond .eq 10, 3) := by decide +kernel
theorem dX0_change_8 : decode cX0_change 8 = .ok (.aload_n 0, 1) := by decide +kernel
theorem dX0_change_9 : decode cX0_change 9 = .ok (.getfield 7, 3) := by decide +kernel
theorem dX0_change_12 : decode cX0_change 12 = .ok (.iload_n 1, 1) := by decide +kernel
theorem dX0_change_13 : decode cX0_change 13 = .ok (.iload_n 2, 1) := by decide +kernel
theorem dX0_change_14 : decode cX0_change 14 = .ok (.iastore, 1) := by decide +kernel
theorem dX0_change_15 : decode cX0_change 15 = .ok (.return_, 1) := by decide +kernel
theorem dX0_add_0 : decode cX0_add 0 = .ok (.aload_n 0, 1) := by decide +kernel
theorem dX0_add_1 : decode cX0_add 1 = .ok (.getfield 13, 3) := by decide +kernel
theorem dX0_add_4 : decode cX0_add 4 = .ok (.ifCond .lt 15, 3) := by decide +kernel
theorem dX0_add_7 : decode cX0_add 7 = .ok (.aload_n 0, 1) := by decide +kernel
theorem dX0_add_8 : decode cX0_add 8 = .ok (.getfield 13, 3) := by decide +kernel
theorem dX0_add_11 : decode cX0_add 11 = .ok (.aload_n 0, 1) := by decide +kernel
theorem dX0_add_12 : decode cX0_add 12 = .ok (.getfield 7, 3) := by decide +kernel
theorem dX0_add_15 : decode cX0_add 15 = .ok (.arraylength, 1) := by decide +kernel
theorem dX0_add_16 : decode cX0_add 16 = .ok (.if_icmp .lt 5, 3) := by decide +kernel
theorem dX0_add_19 : decode cX0_add 19 = .ok (.iconst 0, 1) := by decide +kernel
theorem dX0_add_20 : decode cX0_add 20 = .ok (.ireturn, 1) := by decide +kernel
theorem dX0_add_21 : decode cX0_add 21 = .ok (.aload_n 0, 1) := by decide +kernel
theorem dX0_add_22 : decode cX0_add 22 = .ok (.getfield 7, 3) := by decide +kernel
theorem dX0_add_25 : decode cX0_add 25 = .ok (.aload_n 0, 1) := by decide +kernel
theorem dX0_add_26 : decode cX0_add 26 = .ok (.getfield 13, 3) := by decide +kernel
theorem dX0_add_29 : decode cX0_add 29 = .ok (.iload_n 1, 1) := by decide +kernel
theorem dX0_add_30 : decode cX0_add 30 = .ok (.iastore, 1) := by decide +kernel
theorem dX0_add_31 : decode cX0_add 31 = .ok (.aload_n 0, 1) := by decide +kernel
theorem dX0_add_32 : decode cX0_add 32 = .ok (.dup, 1) := by decide +kernel
theorem dX0_add_33 : decode cX0_add 33 = .ok (.getfield 13, 3) := by decide +kernel
theorem dX0_add_36 : decode cX0_add 36 = .ok (.iconst 1, 1) := by decide +kernel
theorem dX0_add_37 : decode cX0_add 37 = .ok (.iadd, 1) := by decide +kernel
theorem dX0_add_38 : decode cX0_add 38 = .ok (.putfield 13, 3) := by decide +kernel
theorem dX0_add_41 : decode cX0_add 41 = .ok (.iconst 1, 1) := by decide +kernel
theorem dX0_add_42 : decode cX0_add 42 = .ok (.ireturn, 1) := by decide +kernel
theorem dX0_clear_0 : decode cX0_clear 0 = .ok (.aload_n 0, 1) := by decide +kernel
theorem dX0_clear_1 : decode cX0_clear 1 = .ok (.iconst 0, 1) := by decide +kernel
theorem dX0_clear_2 : decode cX0_clear 2 = .ok (.putfield 13, 3) := by decide +kernel
theorem dX0_clear_5 : decode cX0_clear 5 = .ok (.return_, 1) := by decide +kernel
set_option maxRecDepth 20000 in
theorem ggX1_init_X0_init : GoodIn wsX1_init wsX0_init := goodIn_r _ [11, 12, 2, 3, 13, 14, 18, 19] (by decide +kernel) (by decide +kernel)
set_option maxRecDepth 20000 in
theorem gX1_init_X0_init : GoodIn wsX1_init (wsX0_init) := ggX1_init_X0_init
theorem dX1_init_0 : decode cX1_init 0 = .ok (.aload_n 0, 1) := by decide +kernel
theorem dX1_init_1 : decode cX1_init 1 = .ok (.invokespecial 3, 3) := by decide +kernel
theorem dX1_init_4 : decode cX1_init 4 = .ok (.aload_n 0, 1) := by decide +kernel
theorem dX1_init_5 : decode cX1_init 5 = .ok (.bipush 20, 2) := by decide +kernel
theorem dX1_init_7 : decode cX1_init 7 = .ok (.anewarray 9, 3) := by decide +kernel
theorem dX1_init_10 : decode cX1_init 10 = .ok (.putfield 11, 3) := by decide +kernel
theorem dX1_init_13 : decode cX1_init 13 = .ok (.aload_n 0, 1) := by decide +kernel
theorem dX1_init_14 : decode cX1_init 14 = .ok (.iconst 1, 1) := by decide +kernel
theorem dX1_init_15 : decode cX1_init 15 = .ok (.putfield 17, 3) := by decide +kernel
theorem dX1_init_18 : decode cX1_init 18 = .ok (.iconst 0, 1) := by decide +kernel
theorem dX1_init_19 : decode cX1_init 19 = .ok (.istore_n 1, 1) := by decide +kernel
theorem dX1_init_20 : decode cX1_init 20 = .ok (.iload_n 1, 1) := by decide +kernel
theorem dX1_init_21 : decode cX1_init 21 = .ok (.aload_n 0, 1) := by decide +kernel
theorem dX1_init_22 : decode cX1_init 22 = .ok (.getfield 11, 3) := by decide +kernel
theorem dX1_init_25 : decode cX1_init 25 = .ok (.arraylength, 1) := by decide +kernel
theorem dX1_init_26 : decode cX1_init 26 = .ok (.if_icmp .ge 24, 3) := by decide +kernel
theorem dX1_init_29 : decode cX1_init 29 = .ok (.aload_n 0, 1) := by decide +kernel
theorem dX1_init_30 : decode cX1_init 30 = .ok (.getfield 11, 3) := by decide +kernel
theorem dX1_init_33 : decode cX1_init 33 = .ok (.iload_n 1, 1) := by decide +kernel
theorem dX1_init_34 : decode cX1_init 34 = .ok (.new 9, 3) := by decide +kernel
theorem dX1_init_37 : decode cX1_init 37 = .ok (.dup, 1) := by decide +kernel
theorem dX1_init_38 : decode cX1_init 38 = .ok (.bipush 40, 2) := by decide +kernel
theorem dX1_init_40 : decode cX1_init 40 = .ok (.invokespecial 21, 3) := by decide +kernel
theorem dX1_init_43 : decode cX1_init 43 = .ok (.aastore, 1) := by decide +kernel
theorem dX1_init_44 : decode cX1_init 44 = .ok (.iinc 1 1, 3) := by decide +kernel
theorem dX1_init_47 : decode cX1_init 47 = .ok (.goto (-27), 3) := by decide +kernel
theorem dX1_init_50 : decode cX1_init 50 = .ok (.return_, 1) := by decide +kernel
theorem dX1_lines_0 : decode cX1_lines 0 = .ok (.aload_n 0, 1) := by decide +kernel
theorem dX1_lines_1 : decode cX1_lines 1 = .ok (.getfield 17, 3) := by decide +kernel
theorem dX1_lines_4 : decode cX1_lines 4 = .ok (.ireturn, 1) := by decide +kernel
theorem dX1_row_0 : decode cX1_row 0 = .ok (.iload_n 1, 1) := by decide +kernel
theorem dX1_row_1 : decode cX1_row 1 = .ok (.ifCond .lt 11, 3) := by decide +kernel
theorem dX1_row_4 : decode cX1_row 4 = .ok (.iload_n 1, 1) := by decide +kernel
theorem dX1_row_5 : decode cX1_row 5 = .ok (.aload_n 0, 1) := by decide +kernel
theorem dX1_row_6 : decode cX1_row 6 = .ok (.getfield 17, 3) := by decide +kernel
theorem dX1_row_9 : decode cX1_row 9 = .ok (.if_icmp .lt 5, 3) := by decide +kernel
theorem dX1_row_12 : decode cX1_row 12 = .ok (.aconst_null, 1) := by decide +kernel
theorem dX1_row_13 : decode cX1_row 13 = .ok (.areturn, 1) := by decide +kernel
theorem dX1_row_14 : decode cX1_row 14 = .ok (.aload_n 0, 1) := by decide +kernel
theorem dX1_row_15 : decode cX1_row 15 = .ok (.getfield 24, 3) := by decide +kernel
theorem dX1_row_18 : decode cX1_row 18 = .ok (.iload_n 1, 1) := by decide +kernel
theorem dX1_row_19 : decode cX1_row 19 = .ok (.iadd, 1) := by decide +kernel
theorem dX1_row_20 : decode cX1_row 20 = .ok (.bipush 20, 2) := by decide +kernel
theorem dX1_row_22 : decode cX1_row 22 = .ok (.irem, 1) := by decide +kernel
theorem dX1_row_23 : decode cX1_row 23 = .ok (.istore_n 2, 1) := by decide +kernel
theorem dX1_row_24 : decode cX1_row 24 = .ok (.iload_n 2, 1) := by decide +kernel
theorem dX1_row_25 : decode cX1_row 25 = .ok (.ifCond .lt 21, 3) := by decide +kernel
theorem dX1_row_28 : decode cX1_row 28 = .ok (.iload_n 2, 1) := by decide +kernel
theorem dX1_row_29 : decode cX1_row 29 = .ok (.aload_n 0, 1) := by decide +kernel
theorem dX1_row_30 : decode cX1_row 30 = .ok (.getfield 11, 3) := by decide +kernel
theorem dX1_row_33 : decode cX1_row 33 = .ok (.arraylength, 1) := by decide +kernel
theorem dX1_row_34 : decode cX1_row 34 = .ok (.if_icmp .ge 12, 3) := by decide +kernel
theorem dX1_row_37 : decode cX1_row 37 = .ok (.aload_n 0, 1) := by decide +kernel
theorem dX1_row_38 : decode cX1_row 38 = .ok (.getfield 11, 3) := by decide +kernel
theorem dX1_row_41 : decode cX1_row 41 = .ok (.iload_n 2, 1) := by decide +kernel
theorem dX1_row_42 : decode cX1_row 42 = .ok (.aaload, 1) := by decide +kernel
theorem dX1_row_43 : decode cX1_row 43 = .ok (.goto 4, 3) := by decide +kernel
theorem dX1_row_46 : decode cX1_row 46 = .ok (.aconst_null, 1) := by decide +kernel
theorem dX1_row_47 : decode cX1_row 47 = .ok (.areturn, 1) := by decide +kernel
set_option maxRecDepth 20000 in
theorem ggX1_add_X1_row : GoodIn wsX1_add wsX1_row := goodIn_r _ [6, 1, 7, 8, 16, 17, 18] (by decide +kernel) (by decide +kernel)
set_option maxRecDepth 20000 in
theorem gX1_add_X1_row : GoodIn wsX1_add (wsV RX1 27 RX1 yX1_row wsX1_row) := goodIn_app (goodIn_of _ (by decide +kernel)) ggX1_add_X1_row
set_option maxRecDepth 20000 in
theorem ggX1_add_X0_add : GoodIn wsX1_add wsX0_add := goodIn_r _ [13, 14, 15, 19, 20] (by decide +kernel) (by decide +kernel)
set_option maxRecDepth 20000 in
theorem gX1_add_X0_add : GoodIn wsX1_add (wsV RX1 31 RX0 yX0_add wsX0_add) := goodIn_app (goodIn_of _ (by decide +kernel)) ggX1_add_X0_add
theorem dX1_add_0 : decode cX1_add 0 = .ok (.aload_n 0, 1) := by decide +kernel
theorem dX1_add_1 : decode cX1_add 1 = .ok (.aload_n 0, 1) := by decide +kernel
theorem dX1_add_2 : decode cX1_add 2 = .ok (.getfield 17, 3) := by decide +kernel
theorem dX1_add_5 : decode cX1_add 5 = .ok (.iconst 1, 1) := by decide +kernel
theorem dX1_add_6 : decode cX1_add 6 = .ok (.isub, 1) := by decide +kernel
theorem dX1_add_7 : decode cX1_add 7 = .ok (.invokevirtual 27, 3) := by decide +kernel
theorem dX1_add_10 : decode cX1_add 10 = .ok (.astore_n 2, 1) := by decide +kernel
theorem dX1_add_11 : decode cX1_add 11 = .ok (.aload_n 2, 1) := by decide +kernel
theorem dX1_add_12 : decode cX1_add 12 = .ok (.ifnull 15, 3) := by decide +kernel
theorem dX1_add_15 : decode cX1_add 15 = .ok (.aload_n 2, 1) := by decide +kernel
theorem dX1_add_16 : decode cX1_add 16 = .ok (.iload_n 1, 1) := by decide +kernel
theorem dX1_add_17 : decode cX1_add 17 = .ok (.invokevirtual 31, 3) := by decide +kernel
theorem dX1_add_20 : decode cX1_add 20 = .ok (.ifCond .eq 7, 3) := by decide +kernel
theorem dX1_add_23 : decode cX1_add 23 = .ok (.iconst 1, 1) := by decide +kernel
theorem dX1_add_24 : decode cX1_add 24 = .ok (.goto 4, 3) := by decide +kernel
theorem dX1_add_27 : decode cX1_add 27 = .ok (.iconst 0, 1) := by decide +kernel
theorem dX1_add_28 : decode cX1_add 28 = .ok (.ireturn, 1) := by decide +kernel
set_option maxRecDepth 20000 in
theorem ggX1_beginLine_X1_row : GoodIn wsX1_beginLine wsX1_row := goodIn_r _ [7, 1, 2, 8, 15, 16, 17] (by decide +kernel) (by decide +kernel)
set_option maxRecDepth 20000 in
theorem gX1_beginLine_X1_row : GoodIn wsX1_beginLine (wsV RX1 27 RX1 yX1_row wsX1_row) := goodIn_app (goodIn_of _ (by decide +kernel)) ggX1_beginLine_X1_row
set_option maxRecDepth 20000 in
theorem ggX1_beginLine_X0_clear : GoodIn wsX1_beginLine wsX0_clear := goodIn_r _ [13, 14, 18, 19] (by decide +kernel) (by decide +kernel)
set_option maxRecDepth 20000 in
theorem gX1_beginLine_X0_clear : GoodIn wsX1_beginLine (wsV RX1 35 RX0 yX0_clear wsX0_clear) := goodIn_app (goodIn_of _ (by decide +kernel)) ggX1_beginLine_X0_clear
theorem dX1_beginLine_0 : decode cX1_beginLine 0 = .ok (.aload_n 0, 1) := by decide +kernel
theorem dX1_beginLine_1 : decode cX1_beginLine 1 = .ok (.getfield 17, 3) := by decide +kernel
theorem dX1_beginLine_4 : decode cX1_beginLine 4 = .ok (.bipush 20, 2) := by decide +kernel
theorem dX1_beginLine_6 : decode cX1_beginLine 6 = .ok (.if_icmp .ge 16, 3) := by decide +kernel
theorem dX1_beginLine_9 : decode cX1_beginLine 9 = .ok (.aload_n 0, 1) := by decide +kernel
theorem dX1_beginLine_10 : decode cX1_beginLine 10 = .ok (.dup, 1) := by decide +kernel
theorem dX1_beginLine_11 : decode cX1_beginLine 11 = .ok (.getfield 17, 3) := by decide +kernel
theorem dX1_beginLine_14 : decode cX1_beginLine 14 = .ok (.iconst 1, 1) := by decide +kernel
theorem dX1_beginLine_15 : decode cX1_beginLine 15 = .ok (.iadd, 1) := by decide +kernel
theorem dX1_beginLine_16 : decode cX1_beginLine 16 = .ok (.putfield 17, 3) := by decide +kernel
theorem dX1_beginLine_19 : decode cX1_beginLine 19 = .ok (.goto 16, 3) := by decide +kernel
theorem dX1_beginLine_22 : decode cX1_beginLine 22 = .ok (.aload_n 0, 1) := by decide +kernel
theorem dX1_beginLine_23 : decode cX1_beginLine 23 = .ok (.aload_n 0, 1) := by decide +kernel
theorem dX1_beginLine_24 : decode cX1_beginLine 24 = .ok (.getfield 24, 3) := by decide +kernel
theorem dX1_beginLine_27 : decode cX1_beginLine 27 = .ok (.iconst 1, 1) := by decide +kernel
theorem dX1_beginLine_28 : decode cX1_beginLine 28 = .ok (.iadd, 1) := by decide +kernel
theorem dX1_beginLine_29 : decode cX1_beginLine 29 = .ok (.bipush 20, 2) := by decide +kernel
theorem dX1_beginLine_31 : decode cX1_beginLine 31 = .ok (.irem, 1) := by decide +kernel
theorem dX1_beginLine_32 : decode cX1_beginLine 32 = .ok (.putfield 24, 3) := by decide +kernel
theorem dX1_beginLine_35 : decode cX1_beginLine 35 = .ok (.aload_n 0, 1) := by decide +kernel
theorem dX1_beginLine_36 : decode cX1_beginLine 36 = .ok (.aload_n 0, 1) := by decide +kernel
theorem dX1_beginLine_37 : decode cX1_beginLine 37 = .ok (.getfield 17, 3) := by decide +kernel
theorem dX1_beginLine_40 : decode cX1_beginLine 40 = .ok (.iconst 1, 1) := by decide +kernel
theorem dX1_beginLine_41 : decode cX1_beginLine 41 = .ok (.isub, 1) := by decide +kernel
theorem dX1_beginLine_42 : decode cX1_beginLine 42 = .ok (.invokevirtual 27, 3) := by decide +kernel
theorem dX1_beginLine_45 : decode cX1_beginLine 45 = .ok (.astore_n 1, 1) := by decide +kernel
theorem dX1_beginLine_46 : decode cX1_beginLine 46 = .ok (.aload_n 1, 1) := by decide +kernel
theorem dX1_beginLine_47 : decode cX1_beginLine 47 = .ok (.ifnull 7, 3) := by decide +kernel
theorem dX1_beginLine_50 : decode cX1_beginLine 50 = .ok (.aload_n 1, 1) := by decide +kernel
theorem dX1_beginLine_51 : decode cX1_beginLine 51 = .ok (.invokevirtual 35, 3) := by decide +kernel
theorem dX1_beginLine_54 : decode cX1_beginLine 54 = .ok (.return_, 1) := by decide +kernel
set_option maxRecDepth 20000 in
theorem ggX1_characters_X1_row : GoodIn wsX1_characters wsX1_row := goodIn_r _ [6, 1, 7, 8, 15, 16, 17] (by decide +kernel) (by decide +kernel)
set_option maxRecDepth 20000 in
theorem gX1_characters_X1_row : GoodIn wsX1_characters (wsV RX1 27 RX1 yX1_row wsX1_row) := goodIn_app (goodIn_of _ (by decide +kernel)) ggX1_characters_X1_row
set_option maxRecDepth 20000 in
theorem ggX1_characters_X0_size : GoodIn wsX1_characters wsX0_size := goodIn_r _ [13, 14, 18, 19] (by decide +kernel) (by decide +kernel)
set_option maxRecDepth 20000 in
theorem gX1_characters_X0_size : GoodIn wsX1_characters (wsV RX1 38 RX0 yX0_size wsX0_size) := goodIn_app (goodIn_of _ (by decide +kernel)) ggX1_characters_X0_size
theorem dX1_characters_0 : decode cX1_characters 0 = .ok (.iconst 0, 1) := by decide +kernel
theorem dX1_characters_1 : decode cX1_characters 1 = .ok (.istore_n 1, 1) := by decide +kernel
theorem dX1_characters_2 : decode cX1_characters 2 = .ok (.iconst 0, 1) := by decide +kernel
theorem dX1_characters_3 : decode cX1_characters 3 = .ok (.istore_n 2, 1) := by decide +kernel
theorem dX1_characters_4 : decode cX1_characters 4 = .ok (.iload_n 2, 1) := by decide +kernel
theorem dX1_characters_5 : decode cX1_characters 5 = .ok (.aload_n 0, 1) := by decide +kernel
theorem dX1_characters_6 : decode cX1_characters 6 = .ok (.getfield 17, 3) := by decide +kernel
theorem dX1_characters_9 : decode cX1_characters 9 = .ok (.if_icmp .ge 26, 3) := by decide +kernel
theorem dX1_characters_12 : decode cX1_characters 12 = .ok (.aload_n 0, 1) := by decide +kernel
theorem dX1_characters_13 : decode cX1_characters 13 = .ok (.iload_n 2, 1) := by decide +kernel
theorem dX1_characters_14 : decode cX1_characters 14 = .ok (.invokevirtual 27, 3) := by decide +kernel
theorem dX1_characters_17 : decode cX1_characters 17 = .ok (.astore_n 3, 1) := by decide +kernel
theorem dX1_characters_18 : decode cX1_characters 18 = .ok (.aload_n 3, 1) := by decide +kernel
theorem dX1_characters_19 : decode cX1_characters 19 = .ok (.ifnull 10, 3) := by decide +kernel
theorem dX1_characters_22 : decode cX1_characters 22 = .ok (.iload_n 1, 1) := by decide +kernel
theorem dX1_characters_23 : decode cX1_characters 23 = .ok (.aload_n 3, 1) := by decide +kernel
theorem dX1_characters_24 : decode cX1_characters 24 = .ok (.invokevirtual 38, 3) := by decide +kernel
theorem dX1_characters_27 : decode cX1_characters 27 = .ok (.iadd, 1) := by decide +kernel
theorem dX1_characters_28 : decode cX1_characters 28 = .ok (.istore_n 1, 1) := by decide +kernel
theorem dX1_characters_29 : decode cX1_characters 29 = .ok (.iinc 2 1, 3) := by decide +kernel
theorem dX1_characters_32 : decode cX1_characters 32 = .ok (.goto (-28), 3) := by decide +kernel
theorem dX1_characters_35 : decode cX1_characters 35 = .ok (.iload_n 1, 1) := by decide +kernel
theorem dX1_characters_36 : decode cX1_characters 36 = .ok (.ireturn, 1) := by decide +kernel
set_option maxRecDepth 20000 in
theorem ggX2_init_X0_init : GoodIn wsX2_init wsX0_init := goodIn_r _ [11, 12, 2, 3, 13, 14, 20, 21] (by decide +kernel) (by decide +kernel)
set_option maxRecDepth 20000 in
theorem gX2_init_X0_init : GoodIn wsX2_init (wsX0_init) := ggX2_init_X0_init
set_option maxRecDepth 20000 in
theorem ggX2_init_X0_add : GoodIn wsX2_init wsX0_add := goodIn_r _ [18, 19, 14, 20, 21] (by decide +kernel) (by decide +kernel)
set_option maxRecDepth 20000 in
theorem gX2_init_X0_add : GoodIn wsX2_init (wsV RX2 23 RX0 yX0_add wsX0_add) := goodIn_app (goodIn_of _ (by decide +kernel)) ggX2_init_X0_add
theorem dX2_init_0 : decode cX2_init 0 = .ok (.aload_n 0, 1) := by decide +kernel
theorem dX2_init_1 : decode cX2_init 1 = .ok (.invokespecial 3, 3) := by decide +kernel
theorem dX2_init_4 : decode cX2_init 4 = .ok (.aload_n 0, 1) := by decide +kernel
theorem dX2_init_5 : decode cX2_init 5 = .ok (.new 9, 3) := by decide +kernel
theorem dX2_init_8 : decode cX2_init 8 = .ok (.dup, 1) := by decide +kernel
theorem dX2_init_9 : decode cX2_init 9 = .ok (.bipush 16, 2) := by decide +kernel
theorem dX2_init_11 : decode cX2_init 11 = .ok (.invokespecial 11, 3) := by decide +kernel
theorem dX2_init_14 : decode cX2_init 14 = .ok (.putfield 14, 3) := by decide +kernel
theorem dX2_init_17 : decode cX2_init 17 = .ok (.aload_n 0, 1) := by decide +kernel
theorem dX2_init_18 : decode cX2_init 18 = .ok (.new 9, 3) := by decide +kernel
theorem dX2_init_21 : decode cX2_init 21 = .ok (.dup, 1) := by decide +kernel
theorem dX2_init_22 : decode cX2_init 22 = .ok (.bipush 16, 2) := by decide +kernel
theorem dX2_init_24 : decode cX2_init 24 = .ok (.invokespecial 11, 3) := by decide +kernel
theorem dX2_init_27 : decode cX2_init 27 = .ok (.putfield 20, 3) := by decide +kernel
theorem dX2_init_30 : decode cX2_init 30 = .ok (.iconst 0, 1) := by decide +kernel
theorem dX2_init_31 : decode cX2_init 31 = .ok (.istore_n 1, 1) := by decide +kernel
theorem dX2_init_32 : decode cX2_init 32 = .ok (.iload_n 1, 1) := by decide +kernel
theorem dX2_init_33 : decode cX2_init 33 = .ok (.bipush 16, 2) := by decide +kernel
theorem dX2_init_35 : decode cX2_init 35 = .ok (.if_icmp .ge 27, 3) := by decide +kernel
theorem dX2_init_38 : decode cX2_init 38 = .ok (.aload_n 0, 1) := by decide +kernel
theorem dX2_init_39 : decode cX2_init 39 = .ok (.getfield 14, 3) := by decide +kernel
theorem dX2_init_42 : decode cX2_init 42 = .ok (.iconst 0, 1) := by decide +kernel
theorem dX2_init_43 : decode cX2_init 43 = .ok (.invokevirtual 23, 3) := by decide +kernel
theorem dX2_init_46 : decode cX2_init 46 = .ok (.pop, 1) := by decide +kernel
theorem dX2_init_47 : decode cX2_init 47 = .ok (.aload_n 0, 1) := by decide +kernel
theorem dX2_init_48 : decode cX2_init 48 = .ok (.getfield 20, 3) := by decide +kernel
theorem dX2_init_51 : decode cX2_init 51 = .ok (.iconst 0, 1) := by decide +kernel
theorem dX2_init_52 : decode cX2_init 52 = .ok (.invokevirtual 23, 3) := by decide +kernel
theorem dX2_init_55 : decode cX2_init 55 = .ok (.pop, 1) := by decide +kernel
theorem dX2_init_56 : decode cX2_init 56 = .ok (.iinc 1 1, 3) := by decide +kernel
theorem dX2_init_59 : decode cX2_init 59 = .ok (.goto (-27), 3) := by decide +kernel
theorem dX2_init_62 : decode cX2_init 62 = .ok (.return_, 1) := by decide +kernel
theorem dX2_play_0 : decode cX2_play 0 = .ok (.aload_n 0, 1) := by decide +kernel
theorem dX2_play_1 : decode cX2_play 1 = .ok (.getfield 27, 3) := by decide +kernel
theorem dX2_play_4 : decode cX2_play 4 = .ok (.ireturn, 1) := by decide +kernel
theorem dX2_changePlay_0 : decode cX2_changePlay 0 = .ok (.aload_n 0, 1) := by decide +kernel
theorem dX2_changePlay_1 : decode cX2_changePlay 1 = .ok (.iload_n 1, 1) := by decide +kernel
theorem dX2_changePlay_2 : decode cX2_changePlay 2 = .ok (.putfield 27, 3) := by decide +kernel
theorem dX2_changePlay_5 : decode cX2_changePlay 5 = .ok (.return_, 1) := by decide +kernel
set_option maxRecDepth 20000 in
theorem ggX2_lateAt_X0_at : GoodIn wsX2_lateAt wsX0_at := goodIn_r _ [6, 7, 8, 9, 10, 5, 11, 12, 16, 17] (by decide +kernel) (by decide +kernel)
set_option maxRecDepth 20000 in
theorem gX2_lateAt_X0_at : GoodIn wsX2_lateAt (wsV RX2 31 RX0 yX0_at wsX0_at) := goodIn_app (goodIn_of _ (by decide +kernel)) ggX2_lateAt_X0_at
theorem dX2_lateAt_0 : decode cX2_lateAt 0 = .ok (.aload_n 0, 1) := by decide +kernel
theorem dX2_lateAt_1 : decode cX2_lateAt 1 = .ok (.getfield 14, 3) := by decide +kernel
theorem dX2_lateAt_4 : decode cX2_lateAt 4 = .ok (.iload_n 1, 1) := by decide +kernel
theorem dX2_lateAt_5 : decode cX2_lateAt 5 = .ok (.invokevirtual 31, 3) := by decide +kernel
theorem dX2_lateAt_8 : decode cX2_lateAt 8 = .ok (.ireturn, 1) := by decide +kernel
set_option maxRecDepth 20000 in
theorem ggX2_change_X0_change : GoodIn wsX2_change wsX0_change := goodIn_r _ [7, 8, 9, 10, 11, 6, 12, 13, 17, 18] (by decide +kernel) (by decide +kernel)
set_option maxRecDepth 20000 in
theorem gX2_change_X0_change : GoodIn wsX2_change (wsV RX2 35 RX0 yX0_change wsX0_change) := goodIn_app (goodIn_of _ (by decide +kernel)) ggX2_change_X0_change
theorem dX2_change_0 : decode cX2_change 0 = .ok (.aload_n 0, 1) := by decide +kernel
theorem dX2_change_1 : decode cX2_change 1 = .ok (.getfield 14, 3) := by decide +kernel
theorem dX2_change_4 : decode cX2_change 4 = .ok (.iload_n 1, 1) := by decide +kernel
theorem dX2_change_5 : decode cX2_change 5 = .ok (.iload_n 2, 1) := by decide +kernel
theorem dX2_change_6 : decode cX2_change 6 = .ok (.invokevirtual 35, 3) := by decide +kernel
theorem dX2_change_9 : decode cX2_change 9 = .ok (.aload_n 0, 1) := by decide +kernel
theorem dX2_change_10 : decode cX2_change 10 = .ok (.getfield 20, 3) := by decide +kernel
theorem dX2_change_13 : decode cX2_change 13 = .ok (.iload_n 1, 1) := by decide +kernel
theorem dX2_change_14 : decode cX2_change 14 = .ok (.iload_n 3, 1) := by decide +kernel
theorem dX2_change_15 : decode cX2_change 15 = .ok (.invokevirtual 35, 3) := by decide +kernel
theorem dX2_change_18 : decode cX2_change 18 = .ok (.return_, 1) := by decide +kernel
set_option maxRecDepth 20000 in
theorem ggX2_readAs_X0_at : GoodIn wsX2_readAs wsX0_at := goodIn_r _ [8, 9, 10, 11, 12, 7, 13, 14, 18, 19] (by decide +kernel) (by decide +kernel)
set_option maxRecDepth 20000 in
theorem gX2_readAs_X0_at : GoodIn wsX2_readAs (wsV RX2 31 RX0 yX0_at wsX0_at) := goodIn_app (goodIn_of _ (by decide +kernel)) ggX2_readAs_X0_at
theorem dX2_readAs_0 : decode cX2_readAs 0 = .ok (.iload_n 2, 1) := by decide +kernel
theorem dX2_readAs_1 : decode cX2_readAs 1 = .ok (.bipush 16, 2) := by decide +kernel
theorem dX2_readAs_3 : decode cX2_readAs 3 = .ok (.irem, 1) := by decide +kernel
theorem dX2_readAs_4 : decode cX2_readAs 4 = .ok (.istore_n 3, 1) := by decide +kernel
theorem dX2_readAs_5 : decode cX2_readAs 5 = .ok (.iload_n 1, 1) := by decide +kernel
theorem dX2_readAs_6 : decode cX2_readAs 6 = .ok (.aload_n 0, 1) := by decide +kernel
theorem dX2_readAs_7 : decode cX2_readAs 7 = .ok (.getfield 20, 3) := by decide +kernel
theorem dX2_readAs_10 : decode cX2_readAs 10 = .ok (.iload_n 3, 1) := by decide +kernel
theorem dX2_readAs_11 : decode cX2_readAs 11 = .ok (.invokevirtual 31, 3) := by decide +kernel
theorem dX2_readAs_14 : decode cX2_readAs 14 = .ok (.ixor, 1) := by decide +kernel
theorem dX2_readAs_15 : decode cX2_readAs 15 = .ok (.istore 4, 2) := by decide +kernel
theorem dX2_readAs_17 : decode cX2_readAs 17 = .ok (.aload_n 0, 1) := by decide +kernel
theorem dX2_readAs_18 : decode cX2_readAs 18 = .ok (.getfield 14, 3) := by decide +kernel
theorem dX2_readAs_21 : decode cX2_readAs 21 = .ok (.iload_n 3, 1) := by decide +kernel
theorem dX2_readAs_22 : decode cX2_readAs 22 = .ok (.invokevirtual 31, 3) := by decide +kernel
theorem dX2_readAs_25 : decode cX2_readAs 25 = .ok (.istore 5, 2) := by decide +kernel
theorem dX2_readAs_27 : decode cX2_readAs 27 = .ok (.iload 5, 2) := by decide +kernel
theorem dX2_readAs_29 : decode cX2_readAs 29 = .ok (.aload_n 0, 1) := by decide +kernel
theorem dX2_readAs_30 : decode cX2_readAs 30 = .ok (.getfield 27, 3) := by decide +kernel
theorem dX2_readAs_33 : decode cX2_readAs 33 = .ok (.if_icmp .le 8, 3) := by decide +kernel
theorem dX2_readAs_36 : decode cX2_readAs 36 = .ok (.iload 4, 2) := by decide +kernel
theorem dX2_readAs_38 : decode cX2_readAs 38 = .ok (.iconst 1, 1) := by decide +kernel
theorem dX2_readAs_39 : decode cX2_readAs 39 = .ok (.ishr, 1) := by decide +kernel
theorem dX2_readAs_40 : decode cX2_readAs 40 = .ok (.ireturn, 1) := by decide +kernel
theorem dX2_readAs_41 : decode cX2_readAs 41 = .ok (.iload 5, 2) := by decide +kernel
theorem dX2_readAs_43 : decode cX2_readAs 43 = .ok (.ineg, 1) := by decide +kernel
theorem dX2_readAs_44 : decode cX2_readAs 44 = .ok (.aload_n 0, 1) := by decide +kernel
theorem dX2_readAs_45 : decode cX2_readAs 45 = .ok (.getfield 27, 3) := by decide +kernel
theorem dX2_readAs_48 : decode cX2_readAs 48 = .ok (.if_icmp .le 13, 3) := by decide +kernel
theorem dX2_readAs_51 : decode cX2_readAs 51 = .ok (.iload 4, 2) := by decide +kernel
theorem dX2_readAs_53 : decode cX2_readAs 53 = .ok (.iconst 1, 1) := by decide +kernel
theorem dX2_readAs_54 : decode cX2_readAs 54 = .ok (.ishl, 1) := by decide +kernel
theorem dX2_readAs_55 : decode cX2_readAs 55 = .ok (.iconst 1, 1) := by decide +kernel
theorem dX2_readAs_56 : decode cX2_readAs 56 = .ok (.ior, 1) := by decide +kernel
theorem dX2_readAs_57 : decode cX2_readAs 57 = .ok (.bipush 31, 2) := by decide +kernel
theorem dX2_readAs_59 : decode cX2_readAs 59 = .ok (.iand, 1) := by decide +kernel
theorem dX2_readAs_60 : decode cX2_readAs 60 = .ok (.ireturn, 1) := by decide +kernel
theorem dX2_readAs_61 : decode cX2_readAs 61 = .ok (.iload 4, 2) := by decide +kernel
theorem dX2_readAs_63 : decode cX2_readAs 63 = .ok (.ireturn, 1) := by decide +kernel
set_option maxRecDepth 20000 in
theorem ggX3_init_X2_init : GoodIn wsX3_init wsX2_init := goodIn_r _ [18, 19, 2, 3, 20, 13, 14, 21, 22, 23, 24, 25, 26, 27, 28, 29, 30, 31, 32, 33, 59, 60, 43, 44, 45] (by decide +kernel) (by decide +kernel)
set_option maxRecDepth 20000 in
theorem gX3_init_X2_init : GoodIn wsX3_init (wsX2_init) := ggX3_init_X2_init
set_option maxRecDepth 20000 in
theorem ggX3_init_X1_init : GoodIn wsX3_init wsX1_init := goodIn_r _ [36, 37, 2, 3, 38, 39, 40, 13, 14, 41, 24, 25, 26, 27, 28, 56, 57, 58, 59, 60] (by decide +kernel) (by decide +kernel)
set_option maxRecDepth 20000 in
theorem gX3_init_X1_init : GoodIn wsX3_init (wsX1_init) := ggX3_init_X1_init
set_option maxRecDepth 20000 in
theorem ggX3_init_X0_init : GoodIn wsX3_init wsX0_init := goodIn_r _ [25, 26, 2, 3, 27, 28, 59, 60] (by decide +kernel) (by decide +kernel)
set_option maxRecDepth 20000 in
theorem gX3_init_X0_init : GoodIn wsX3_init (wsX0_init) := ggX3_init_X0_init
theorem dX3_init_0 : decode cX3_init 0 = .ok (.aload_n 0, 1) := by decide +kernel
theorem dX3_init_1 : decode cX3_init 1 = .ok (.invokespecial 1, 3) := by decide +kernel
theorem dX3_init_4 : decode cX3_init 4 = .ok (.aload_n 0, 1) := by decide +kernel
theorem dX3_init_5 : decode cX3_init 5 = .ok (.new 7, 3) := by decide +kernel
theorem dX3_init_8 : decode cX3_init 8 = .ok (.dup, 1) := by decide +kernel
theorem dX3_init_9 : decode cX3_init 9 = .ok (.invokespecial 9, 3) := by decide +kernel
theorem dX3_init_12 : decode cX3_init 12 = .ok (.putfield 10, 3) := by decide +kernel
theorem dX3_init_15 : decode cX3_init 15 = .ok (.aload_n 0, 1) := by decide +kernel
theorem dX3_init_16 : decode cX3_init 16 = .ok (.new 16, 3) := by decide +kernel
theorem dX3_init_19 : decode cX3_init 19 = .ok (.dup, 1) := by decide +kernel
theorem dX3_init_20 : decode cX3_init 20 = .ok (.invokespecial 18, 3) := by decide +kernel
theorem dX3_init_23 : decode cX3_init 23 = .ok (.putfield 19, 3) := by decide +kernel
theorem dX3_init_26 : decode cX3_init 26 = .ok (.aload_n 0, 1) := by decide +kernel
theorem dX3_init_27 : decode cX3_init 27 = .ok (.new 23, 3) := by decide +kernel
theorem dX3_init_30 : decode cX3_init 30 = .ok (.dup, 1) := by decide +kernel
theorem dX3_init_31 : decode cX3_init 31 = .ok (.bipush 120, 2) := by decide +kernel
theorem dX3_init_33 : decode cX3_init 33 = .ok (.invokespecial 25, 3) := by decide +kernel
theorem dX3_init_36 : decode cX3_init 36 = .ok (.putfield 28, 3) := by decide +kernel
theorem dX3_init_39 : decode cX3_init 39 = .ok (.return_, 1) := by decide +kernel
set_option maxRecDepth 20000 in
theorem ggX3_character_X3_isCode : GoodIn wsX3_character wsX3_isCode := goodIn_r _ [6] (by decide +kernel) (by decide +kernel)
set_option maxRecDepth 20000 in
theorem gX3_character_X3_isCode : GoodIn wsX3_character (va_wsS RX3 47 yX3_isCode wsX3_isCode) := goodIn_app (goodIn_of _ (by decide +kernel)) ggX3_character_X3_isCode
set_option maxRecDepth 20000 in
theorem ggX3_character_X3_characterOf : GoodIn wsX3_character wsX3_characterOf := goodIn_r _ [9, 10, 11, 5, 12, 13, 14, 15, 16] (by decide +kernel) (by decide +kernel)
set_option maxRecDepth 20000 in
theorem gX3_character_X3_characterOf : GoodIn wsX3_character (va_wsS RX3 52 yX3_characterOf wsX3_characterOf) := goodIn_app (goodIn_of _ (by decide +kernel)) ggX3_character_X3_characterOf
theorem dX3_character_0 : decode cX3_character 0 = .ok (.iload_n 1, 1) := by decide +kernel
theorem dX3_character_1 : decode cX3_character 1 = .ok (.invokestatic 47, 3) := by decide +kernel
theorem dX3_character_4 : decode cX3_character 4 = .ok (.ifCond .ne 13, 3) := by decide +kernel
theorem dX3_character_7 : decode cX3_character 7 = .ok (.new 36, 3) := by decide +kernel
theorem dX3_character_10 : decode cX3_character 10 = .ok (.dup, 1) := by decide +kernel
theorem dX3_character_11 : decode cX3_character 11 = .ok (.ldc 50, 2) := by decide +kernel
theorem dX3_character_13 : decode cX3_character 13 = .ok (.invokespecial 40, 3) := by decide +kernel
theorem dX3_character_16 : decode cX3_character 16 = .ok (.athrow, 1) := by decide +kernel
theorem dX3_character_17 : decode cX3_character 17 = .ok (.iload_n 1, 1) := by decide +kernel
theorem dX3_character_18 : decode cX3_character 18 = .ok (.iload_n 2, 1) := by decide +kernel
theorem dX3_character_19 : decode cX3_character 19 = .ok (.invokestatic 52, 3) := by decide +kernel
theorem dX3_character_22 : decode cX3_character 22 = .ok (.ireturn, 1) := by decide +kernel
set_option maxRecDepth 20000 in
theorem ggX3_setLine_X3_isCode : GoodIn wsX3_setLine wsX3_isCode := goodIn_r _ [9] (by decide +kernel) (by decide +kernel)
set_option maxRecDepth 20000 in
theorem gX3_setLine_X3_isCode : GoodIn wsX3_setLine (va_wsS RX3 47 yX3_isCode wsX3_isCode) := goodIn_app (goodIn_of _ (by decide +kernel)) ggX3_setLine_X3_isCode
set_option maxRecDepth 20000 in
theorem ggX3_setLine_X2_lateAt : GoodIn wsX3_setLine wsX2_lateAt := goodIn_r _ [14, 15, 16, 17, 18, 19, 20, 21, 22, 23, 24, 25, 26, 46, 47, 48, 49, 50] (by decide +kernel) (by decide +kernel)
set_option maxRecDepth 20000 in
theorem gX3_setLine_X2_lateAt : GoodIn wsX3_setLine (wsV RX3 74 RX2 yX2_lateAt wsX2_lateAt) := goodIn_app (goodIn_of _ (by decide +kernel)) ggX3_setLine_X2_lateAt
set_option maxRecDepth 20000 in
theorem ggX3_setLine_X2_change : GoodIn wsX3_setLine wsX2_change := goodIn_r _ [30, 15, 31, 32, 33, 34, 19, 35, 21, 22, 23, 24, 25, 26, 46, 47, 48, 49, 50] (by decide +kernel) (by decide +kernel)
set_option maxRecDepth 20000 in
theorem gX3_setLine_X2_change : GoodIn wsX3_setLine (wsV RX3 77 RX2 yX2_change wsX2_change) := goodIn_app (goodIn_of _ (by decide +kernel)) ggX3_setLine_X2_change
theorem dX3_setLine_0 : decode cX3_setLine 0 = .ok (.iload_n 1, 1) := by decide +kernel
theorem dX3_setLine_1 : decode cX3_setLine 1 = .ok (.ifCond .lt 9, 3) := by decide +kernel
theorem dX3_setLine_4 : decode cX3_setLine 4 = .ok (.iload_n 1, 1) := by decide +kernel
theorem dX3_setLine_5 : decode cX3_setLine 5 = .ok (.bipush 16, 2) := by decide +kernel
theorem dX3_setLine_7 : decode cX3_setLine 7 = .ok (.if_icmp .lt 13, 3) := by decide +kernel
theorem dX3_setLine_10 : decode cX3_setLine 10 = .ok (.new 36, 3) := by decide +kernel
theorem dX3_setLine_13 : decode cX3_setLine 13 = .ok (.dup, 1) := by decide +kernel
theorem dX3_setLine_14 : decode cX3_setLine 14 = .ok (.ldc 65, 2) := by decide +kernel
theorem dX3_setLine_16 : decode cX3_setLine 16 = .ok (.invokespecial 40, 3) := by decide +kernel
theorem dX3_setLine_19 : decode cX3_setLine 19 = .ok (.athrow, 1) := by decide +kernel
theorem dX3_setLine_20 : decode cX3_setLine 20 = .ok (.iload_n 2, 1) := by decide +kernel
theorem dX3_setLine_21 : decode cX3_setLine 21 = .ok (.bipush (-9), 2) := by decide +kernel
theorem dX3_setLine_23 : decode cX3_setLine 23 = .ok (.if_icmp .lt 9, 3) := by decide +kernel
theorem dX3_setLine_26 : decode cX3_setLine 26 = .ok (.iload_n 2, 1) := by decide +kernel
theorem dX3_setLine_27 : decode cX3_setLine 27 = .ok (.bipush 9, 2) := by decide +kernel
theorem dX3_setLine_29 : decode cX3_setLine 29 = .ok (.if_icmp .le 13, 3) := by decide +kernel
theorem dX3_setLine_32 : decode cX3_setLine 32 = .ok (.new 67, 3) := by decide +kernel
theorem dX3_setLine_35 : decode cX3_setLine 35 = .ok (.dup, 1) := by decide +kernel
theorem dX3_setLine_36 : decode cX3_setLine 36 = .ok (.ldc 69, 2) := by decide +kernel
theorem dX3_setLine_38 : decode cX3_setLine 38 = .ok (.invokespecial 71, 3) := by decide +kernel
theorem dX3_setLine_41 : decode cX3_setLine 41 = .ok (.athrow, 1) := by decide +kernel
theorem dX3_setLine_42 : decode cX3_setLine 42 = .ok (.iload_n 3, 1) := by decide +kernel
theorem dX3_setLine_43 : decode cX3_setLine 43 = .ok (.invokestatic 47, 3) := by decide +kernel
theorem dX3_setLine_46 : decode cX3_setLine 46 = .ok (.ifCond .ne 13, 3) := by decide +kernel
theorem dX3_setLine_49 : decode cX3_setLine 49 = .ok (.new 67, 3) := by decide +kernel
theorem dX3_setLine_52 : decode cX3_setLine 52 = .ok (.dup, 1) := by decide +kernel
theorem dX3_setLine_53 : decode cX3_setLine 53 = .ok (.ldc 72, 2) := by decide +kernel
theorem dX3_setLine_55 : decode cX3_setLine 55 = .ok (.invokespecial 71, 3) := by decide +kernel
theorem dX3_setLine_58 : decode cX3_setLine 58 = .ok (.athrow, 1) := by decide +kernel
theorem dX3_setLine_59 : decode cX3_setLine 59 = .ok (.aload_n 0, 1) := by decide +kernel
theorem dX3_setLine_60 : decode cX3_setLine 60 = .ok (.getfield 10, 3) := by decide +kernel
theorem dX3_setLine_63 : decode cX3_setLine 63 = .ok (.iload_n 1, 1) := by decide +kernel
theorem dX3_setLine_64 : decode cX3_setLine 64 = .ok (.invokevirtual 74, 3) := by decide +kernel
theorem dX3_setLine_67 : decode cX3_setLine 67 = .ok (.istore 4, 2) := by decide +kernel
theorem dX3_setLine_69 : decode cX3_setLine 69 = .ok (.aload_n 0, 1) := by decide +kernel
theorem dX3_setLine_70 : decode cX3_setLine 70 = .ok (.getfield 10, 3) := by decide +kernel
theorem dX3_setLine_73 : decode cX3_setLine 73 = .ok (.iload_n 1, 1) := by decide +kernel
theorem dX3_setLine_74 : decode cX3_setLine 74 = .ok (.iload_n 2, 1) := by decide +kernel
theorem dX3_setLine_75 : decode cX3_setLine 75 = .ok (.iload_n 3, 1) := by decide +kernel
theorem dX3_setLine_76 : decode cX3_setLine 76 = .ok (.invokevirtual 77, 3) := by decide +kernel
theorem dX3_setLine_79 : decode cX3_setLine 79 = .ok (.iload 4, 2) := by decide +kernel
theorem dX3_setLine_81 : decode cX3_setLine 81 = .ok (.ireturn, 1) := by decide +kernel
set_option maxRecDepth 20000 in
theorem ggX3_setPlay_X2_play : GoodIn wsX3_setPlay wsX2_play := goodIn_r _ [8, 9, 24, 25, 26] (by decide +kernel) (by decide +kernel)
set_option maxRecDepth 20000 in
theorem gX3_setPlay_X2_play : GoodIn wsX3_setPlay (wsV RX3 83 RX2 yX2_play wsX2_play) := goodIn_app (goodIn_of _ (by decide +kernel)) ggX3_setPlay_X2_play
set_option maxRecDepth 20000 in
theorem ggX3_setPlay_X2_changePlay : GoodIn wsX3_setPlay wsX2_changePlay := goodIn_r _ [13, 9, 24, 25, 26] (by decide +kernel) (by decide +kernel)
set_option maxRecDepth 20000 in
theorem gX3_setPlay_X2_changePlay : GoodIn wsX3_setPlay (wsV RX3 87 RX2 yX2_changePlay wsX2_changePlay) := goodIn_app (goodIn_of _ (by decide +kernel)) ggX3_setPlay_X2_changePlay
theorem dX3_setPlay_0 : decode cX3_setPlay 0 = .ok (.iload_n 1, 1) := by decide +kernel
theorem dX3_setPlay_1 : decode cX3_setPlay 1 = .ok (.ifCond .lt 9, 3) := by decide +kernel
theorem dX3_setPlay_4 : decode cX3_setPlay 4 = .ok (.iload_n 1, 1) := by decide +kernel
theorem dX3_setPlay_5 : decode cX3_setPlay 5 = .ok (.bipush 9, 2) := by decide +kernel
theorem dX3_setPlay_7 : decode cX3_setPlay 7 = .ok (.if_icmp .le 13, 3) := by decide +kernel
theorem dX3_setPlay_10 : decode cX3_setPlay 10 = .ok (.new 67, 3) := by decide +kernel
theorem dX3_setPlay_13 : decode cX3_setPlay 13 = .ok (.dup, 1) := by decide +kernel
theorem dX3_setPlay_14 : decode cX3_setPlay 14 = .ok (.ldc 81, 2) := by decide +kernel
theorem dX3_setPlay_16 : decode cX3_setPlay 16 = .ok (.invokespecial 71, 3) := by decide +kernel
theorem dX3_setPlay_19 : decode cX3_setPlay 19 = .ok (.athrow, 1) := by decide +kernel
theorem dX3_setPlay_20 : decode cX3_setPlay 20 = .ok (.aload_n 0, 1) := by decide +kernel
theorem dX3_setPlay_21 : decode cX3_setPlay 21 = .ok (.getfield 10, 3) := by decide +kernel
theorem dX3_setPlay_24 : decode cX3_setPlay 24 = .ok (.invokevirtual 83, 3) := by decide +kernel
theorem dX3_setPlay_27 : decode cX3_setPlay 27 = .ok (.istore_n 2, 1) := by decide +kernel
theorem dX3_setPlay_28 : decode cX3_setPlay 28 = .ok (.aload_n 0, 1) := by decide +kernel
theorem dX3_setPlay_29 : decode cX3_setPlay 29 = .ok (.getfield 10, 3) := by decide +kernel
theorem dX3_setPlay_32 : decode cX3_setPlay 32 = .ok (.iload_n 1, 1) := by decide +kernel
theorem dX3_setPlay_33 : decode cX3_setPlay 33 = .ok (.invokevirtual 87, 3) := by decide +kernel
theorem dX3_setPlay_36 : decode cX3_setPlay 36 = .ok (.iload_n 2, 1) := by decide +kernel
theorem dX3_setPlay_37 : decode cX3_setPlay 37 = .ok (.ireturn, 1) := by decide +kernel
theorem dX3_setUnshift_0 : decode cX3_setUnshift 0 = .ok (.aload_n 0, 1) := by decide +kernel
theorem dX3_setUnshift_1 : decode cX3_setUnshift 1 = .ok (.getfield 90, 3) := by decide +kernel
theorem dX3_setUnshift_4 : decode cX3_setUnshift 4 = .ok (.istore_n 2, 1) := by decide +kernel
theorem dX3_setUnshift_5 : decode cX3_setUnshift 5 = .ok (.aload_n 0, 1) := by decide +kernel
theorem dX3_setUnshift_6 : decode cX3_setUnshift 6 = .ok (.iload_n 1, 1) := by decide +kernel
theorem dX3_setUnshift_7 : decode cX3_setUnshift 7 = .ok (.putfield 90, 3) := by decide +kernel
theorem dX3_setUnshift_10 : decode cX3_setUnshift 10 = .ok (.iload_n 2, 1) := by decide +kernel
theorem dX3_setUnshift_11 : decode cX3_setUnshift 11 = .ok (.ireturn, 1) := by decide +kernel
set_option maxRecDepth 20000 in
theorem ggX3_receive_X3_isCode : GoodIn wsX3_receive wsX3_isCode := goodIn_r _ [6] (by decide +kernel) (by decide +kernel)
set_option maxRecDepth 20000 in
theorem gX3_receive_X3_isCode : GoodIn wsX3_receive (va_wsS RX3 47 yX3_isCode wsX3_isCode) := goodIn_app (goodIn_of _ (by decide +kernel)) ggX3_receive_X3_isCode
set_option maxRecDepth 20000 in
theorem ggX3_receive_X3_takeIn : GoodIn wsX3_receive wsX3_takeIn := goodIn_r _ [10, 11, 12, 13, 14, 15, 16, 17, 18, 19, 20, 21, 22, 23, 24, 25, 26, 27, 28, 29, 30, 31, 32, 33, 34, 35, 5, 36, 37, 38, 39, 40, 41, 42, 43, 44, 45, 46, 47, 48, 49, 50, 51, 52, 53, 54, 55, 56, 57, 58, 59, 60, 61, 62, 63, 64, 65, 66, 67, 68, 69, 70, 71, 72, 73, 74, 75, 76, 77, 78, 79, 80, 81, 82, 83, 84, 85, 86, 87, 88, 89, 90, 91, 92, 93, 94, 95, 96, 97, 98, 99, 100, 101] (by decide +kernel) (by decide +kernel)
set_option maxRecDepth 20000 in
theorem gX3_receive_X3_takeIn : GoodIn wsX3_receive (wsV RX3 93 RX3 yX3_takeIn wsX3_takeIn) := goodIn_app (goodIn_of _ (by decide +kernel)) ggX3_receive_X3_takeIn
theorem dX3_receive_0 : decode cX3_receive 0 = .ok (.iload_n 1, 1) := by decide +kernel
theorem dX3_receive_1 : decode cX3_receive 1 = .ok (.invokestatic 47, 3) := by decide +kernel
theorem dX3_receive_4 : decode cX3_receive 4 = .ok (.ifCond .ne 13, 3) := by decide +kernel
theorem dX3_receive_7 : decode cX3_receive 7 = .ok (.new 36, 3) := by decide +kernel
theorem dX3_receive_10 : decode cX3_receive 10 = .ok (.dup, 1) := by decide +kernel
theorem dX3_receive_11 : decode cX3_receive 11 = .ok (.ldc 50, 2) := by decide +kernel
theorem dX3_receive_13 : decode cX3_receive 13 = .ok (.invokespecial 40, 3) := by decide +kernel
theorem dX3_receive_16 : decode cX3_receive 16 = .ok (.athrow, 1) := by decide +kernel
theorem dX3_receive_17 : decode cX3_receive 17 = .ok (.aload_n 0, 1) := by decide +kernel
theorem dX3_receive_18 : decode cX3_receive 18 = .ok (.iload_n 1, 1) := by decide +kernel
theorem dX3_receive_19 : decode cX3_receive 19 = .ok (.invokevirtual 93, 3) := by decide +kernel
theorem dX3_receive_22 : decode cX3_receive 22 = .ok (.ireturn, 1) := by decide +kernel
set_option maxRecDepth 20000 in
theorem ggX3_punch_X3_isCode : GoodIn wsX3_punch wsX3_isCode := goodIn_r _ [9] (by decide +kernel) (by decide +kernel)
set_option maxRecDepth 20000 in
theorem gX3_punch_X3_isCode : GoodIn wsX3_punch (va_wsS RX3 47 yX3_isCode wsX3_isCode) := goodIn_app (goodIn_of _ (by decide +kernel)) ggX3_punch_X3_isCode
set_option maxRecDepth 20000 in
theorem ggX3_punch_X0_room : GoodIn wsX3_punch wsX0_room := goodIn_r _ [14, 15, 16, 35, 36] (by decide +kernel) (by decide +kernel)
set_option maxRecDepth 20000 in
theorem gX3_punch_X0_room : GoodIn wsX3_punch (wsV RX3 96 RX0 yX0_room wsX0_room) := goodIn_app (goodIn_of _ (by decide +kernel)) ggX3_punch_X0_room
set_option maxRecDepth 20000 in
theorem ggX3_punch_X0_add : GoodIn wsX3_punch wsX0_add := goodIn_r _ [20, 16, 15, 35, 36] (by decide +kernel) (by decide +kernel)
set_option maxRecDepth 20000 in
theorem gX3_punch_X0_add : GoodIn wsX3_punch (wsV RX3 104 RX0 yX0_add wsX0_add) := goodIn_app (goodIn_of _ (by decide +kernel)) ggX3_punch_X0_add
set_option maxRecDepth 20000 in
theorem ggX3_punch_X0_size : GoodIn wsX3_punch wsX0_size := goodIn_r _ [24, 16, 35, 36] (by decide +kernel) (by decide +kernel)
set_option maxRecDepth 20000 in
theorem gX3_punch_X0_size : GoodIn wsX3_punch (wsV RX3 107 RX0 yX0_size wsX0_size) := goodIn_app (goodIn_of _ (by decide +kernel)) ggX3_punch_X0_size
theorem dX3_punch_0 : decode cX3_punch 0 = .ok (.iload_n 1, 1) := by decide +kernel
theorem dX3_punch_1 : decode cX3_punch 1 = .ok (.invokestatic 47, 3) := by decide +kernel
theorem dX3_punch_4 : decode cX3_punch 4 = .ok (.ifCond .ne 13, 3) := by decide +kernel
theorem dX3_punch_7 : decode cX3_punch 7 = .ok (.new 36, 3) := by decide +kernel
theorem dX3_punch_10 : decode cX3_punch 10 = .ok (.dup, 1) := by decide +kernel
theorem dX3_punch_11 : decode cX3_punch 11 = .ok (.ldc 50, 2) := by decide +kernel
theorem dX3_punch_13 : decode cX3_punch 13 = .ok (.invokespecial 40, 3) := by decide +kernel
theorem dX3_punch_16 : decode cX3_punch 16 = .ok (.athrow, 1) := by decide +kernel
theorem dX3_punch_17 : decode cX3_punch 17 = .ok (.aload_n 0, 1) := by decide +kernel
theorem dX3_punch_18 : decode cX3_punch 18 = .ok (.getfield 28, 3) := by decide +kernel
theorem dX3_punch_21 : decode cX3_punch 21 = .ok (.invokevirtual 96, 3) := by decide +kernel
theorem dX3_punch_24 : decode cX3_punch 24 = .ok (.iconst 1, 1) := by decide +kernel
theorem dX3_punch_25 : decode cX3_punch 25 = .ok (.if_icmp .ge 13, 3) := by decide +kernel
theorem dX3_punch_28 : decode cX3_punch 28 = .ok (.new 99, 3) := by decide +kernel
theorem dX3_punch_31 : decode cX3_punch 31 = .ok (.dup, 1) := by decide +kernel
theorem dX3_punch_32 : decode cX3_punch 32 = .ok (.ldc 101, 2) := by decide +kernel
theorem dX3_punch_34 : decode cX3_punch 34 = .ok (.invokespecial 103, 3) := by decide +kernel
theorem dX3_punch_37 : decode cX3_punch 37 = .ok (.athrow, 1) := by decide +kernel
theorem dX3_punch_38 : decode cX3_punch 38 = .ok (.aload_n 0, 1) := by decide +kernel
theorem dX3_punch_39 : decode cX3_punch 39 = .ok (.getfield 28, 3) := by decide +kernel
theorem dX3_punch_42 : decode cX3_punch 42 = .ok (.iload_n 1, 1) := by decide +kernel
theorem dX3_punch_43 : decode cX3_punch 43 = .ok (.invokevirtual 104, 3) := by decide +kernel
theorem dX3_punch_46 : decode cX3_punch 46 = .ok (.pop, 1) := by decide +kernel
theorem dX3_punch_47 : decode cX3_punch 47 = .ok (.aload_n 0, 1) := by decide +kernel
theorem dX3_punch_48 : decode cX3_punch 48 = .ok (.getfield 28, 3) := by decide +kernel
theorem dX3_punch_51 : decode cX3_punch 51 = .ok (.invokevirtual 107, 3) := by decide +kernel
theorem dX3_punch_54 : decode cX3_punch 54 = .ok (.ireturn, 1) := by decide +kernel
set_option maxRecDepth 20000 in
theorem ggX3_type_X3_isCharacter : GoodIn wsX3_type wsX3_isCharacter := goodIn_r _ [9] (by decide +kernel) (by decide +kernel)
set_option maxRecDepth 20000 in
theorem gX3_type_X3_isCharacter : GoodIn wsX3_type (va_wsS RX3 32 yX3_isCharacter wsX3_isCharacter) := goodIn_app (goodIn_of _ (by decide +kernel)) ggX3_type_X3_isCharacter
set_option maxRecDepth 20000 in
theorem ggX3_type_X3_isFigure : GoodIn wsX3_type wsX3_isFigure := goodIn_r _ [12] (by decide +kernel) (by decide +kernel)
set_option maxRecDepth 20000 in
theorem gX3_type_X3_isFigure : GoodIn wsX3_type (va_wsS RX3 110 yX3_isFigure wsX3_isFigure) := goodIn_app (goodIn_of _ (by decide +kernel)) ggX3_type_X3_isFigure
set_option maxRecDepth 20000 in
theorem ggX3_type_X3_codeOf : GoodIn wsX3_type wsX3_codeOf := goodIn_r _ [15, 16] (by decide +kernel) (by decide +kernel)
set_option maxRecDepth 20000 in
theorem gX3_type_X3_codeOf : GoodIn wsX3_type (va_wsS RX3 43 yX3_codeOf wsX3_codeOf) := goodIn_app (goodIn_of _ (by decide +kernel)) ggX3_type_X3_codeOf
set_option maxRecDepth 20000 in
theorem ggX3_type_X3_dependsOnShift : GoodIn wsX3_type wsX3_dependsOnShift := goodIn_r _ [19, 20, 21, 8, 22, 23] (by decide +kernel) (by decide +kernel)
set_option maxRecDepth 20000 in
theorem gX3_type_X3_dependsOnShift : GoodIn wsX3_type (va_wsS RX3 113 yX3_dependsOnShift wsX3_dependsOnShift) := goodIn_app (goodIn_of _ (by decide +kernel)) ggX3_type_X3_dependsOnShift
set_option maxRecDepth 20000 in
theorem ggX3_type_X3_figuresAtEnd : GoodIn wsX3_type wsX3_figuresAtEnd := goodIn_r _ [27, 5, 28, 29, 30, 31, 32, 33, 34, 35, 36, 8, 37, 38, 39, 40, 41, 42, 43, 44, 45, 46, 47, 48, 49, 50, 51, 52, 53, 54, 55, 64, 65, 66, 67, 68, 69, 70, 71, 72, 73, 74, 75] (by decide +kernel) (by decide +kernel)
set_option maxRecDepth 20000 in
theorem gX3_type_X3_figuresAtEnd : GoodIn wsX3_type (wsV RX3 116 RX3 yX3_figuresAtEnd wsX3_figuresAtEnd) := goodIn_app (goodIn_of _ (by decide +kernel)) ggX3_type_X3_figuresAtEnd
set_option maxRecDepth 20000 in
theorem ggX3_type_X0_room : GoodIn wsX3_type wsX0_room := goodIn_r _ [59, 42, 33, 74, 75] (by decide +kernel) (by decide +kernel)
set_option maxRecDepth 20000 in
theorem gX3_type_X0_room : GoodIn wsX3_type (wsV RX3 96 RX0 yX0_room wsX0_room) := goodIn_app (goodIn_of _ (by decide +kernel)) ggX3_type_X0_room
set_option maxRecDepth 20000 in
theorem ggX3_type_X0_add : GoodIn wsX3_type wsX0_add := goodIn_r _ [63, 33, 42, 74, 75] (by decide +kernel) (by decide +kernel)
set_option maxRecDepth 20000 in
theorem gX3_type_X0_add : GoodIn wsX3_type (wsV RX3 104 RX0 yX0_add wsX0_add) := goodIn_app (goodIn_of _ (by decide +kernel)) ggX3_type_X0_add
theorem dX3_type_0 : decode cX3_type 0 = .ok (.iload_n 1, 1) := by decide +kernel
theorem dX3_type_1 : decode cX3_type 1 = .ok (.invokestatic 32, 3) := by decide +kernel
theorem dX3_type_4 : decode cX3_type 4 = .ok (.ifCond .ne 13, 3) := by decide +kernel
theorem dX3_type_7 : decode cX3_type 7 = .ok (.new 36, 3) := by decide +kernel
theorem dX3_type_10 : decode cX3_type 10 = .ok (.dup, 1) := by decide +kernel
theorem dX3_type_11 : decode cX3_type 11 = .ok (.ldc 38, 2) := by decide +kernel
theorem dX3_type_13 : decode cX3_type 13 = .ok (.invokespecial 40, 3) := by decide +kernel
theorem dX3_type_16 : decode cX3_type 16 = .ok (.athrow, 1) := by decide +kernel
theorem dX3_type_17 : decode cX3_type 17 = .ok (.iload_n 1, 1) := by decide +kernel
theorem dX3_type_18 : decode cX3_type 18 = .ok (.invokestatic 110, 3) := by decide +kernel
theorem dX3_type_21 : decode cX3_type 21 = .ok (.istore_n 2, 1) := by decide +kernel
theorem dX3_type_22 : decode cX3_type 22 = .ok (.iload_n 1, 1) := by decide +kernel
theorem dX3_type_23 : decode cX3_type 23 = .ok (.invokestatic 43, 3) := by decide +kernel
theorem dX3_type_26 : decode cX3_type 26 = .ok (.invokestatic 113, 3) := by decide +kernel
theorem dX3_type_29 : decode cX3_type 29 = .ok (.ifCond .eq 15, 3) := by decide +kernel
theorem dX3_type_32 : decode cX3_type 32 = .ok (.iload_n 2, 1) := by decide +kernel
theorem dX3_type_33 : decode cX3_type 33 = .ok (.aload_n 0, 1) := by decide +kernel
theorem dX3_type_34 : decode cX3_type 34 = .ok (.invokevirtual 116, 3) := by decide +kernel
theorem dX3_type_37 : decode cX3_type 37 = .ok (.if_icmp .eq 7, 3) := by decide +kernel
theorem dX3_type_40 : decode cX3_type 40 = .ok (.iconst 1, 1) := by decide +kernel
theorem dX3_type_41 : decode cX3_type 41 = .ok (.goto 4, 3) := by decide +kernel
theorem dX3_type_44 : decode cX3_type 44 = .ok (.iconst 0, 1) := by decide +kernel
theorem dX3_type_45 : decode cX3_type 45 = .ok (.istore_n 3, 1) := by decide +kernel
theorem dX3_type_46 : decode cX3_type 46 = .ok (.iload_n 3, 1) := by decide +kernel
theorem dX3_type_47 : decode cX3_type 47 = .ok (.ifCond .eq 7, 3) := by decide +kernel
theorem dX3_type_50 : decode cX3_type 50 = .ok (.iconst 2, 1) := by decide +kernel
theorem dX3_type_51 : decode cX3_type 51 = .ok (.goto 4, 3) := by decide +kernel
theorem dX3_type_54 : decode cX3_type 54 = .ok (.iconst 1, 1) := by decide +kernel
theorem dX3_type_55 : decode cX3_type 55 = .ok (.istore 4, 2) := by decide +kernel
theorem dX3_type_57 : decode cX3_type 57 = .ok (.aload_n 0, 1) := by decide +kernel
theorem dX3_type_58 : decode cX3_type 58 = .ok (.getfield 28, 3) := by decide +kernel
theorem dX3_type_61 : decode cX3_type 61 = .ok (.invokevirtual 96, 3) := by decide +kernel
theorem dX3_type_64 : decode cX3_type 64 = .ok (.iload 4, 2) := by decide +kernel
theorem dX3_type_66 : decode cX3_type 66 = .ok (.if_icmp .ge 13, 3) := by decide +kernel
theorem dX3_type_69 : decode cX3_type 69 = .ok (.new 99, 3) := by decide +kernel
theorem dX3_type_72 : decode cX3_type 72 = .ok (.dup, 1) := by decide +kernel
theorem dX3_type_73 : decode cX3_type 73 = .ok (.ldc 120, 2) := by decide +kernel
theorem dX3_type_75 : decode cX3_type 75 = .ok (.invokespecial 103, 3) := by decide +kernel
theorem dX3_type_78 : decode cX3_type 78 = .ok (.athrow, 1) := by decide +kernel
theorem dX3_type_79 : decode cX3_type 79 = .ok (.iload_n 3, 1) := by decide +kernel
theorem dX3_type_80 : decode cX3_type 80 = .ok (.ifCond .eq 22, 3) := by decide +kernel
theorem dX3_type_83 : decode cX3_type 83 = .ok (.aload_n 0, 1) := by decide +kernel
theorem dX3_type_84 : decode cX3_type 84 = .ok (.getfield 28, 3) := by decide +kernel
theorem dX3_type_87 : decode cX3_type 87 = .ok (.iload_n 2, 1) := by decide +kernel
theorem dX3_type_88 : decode cX3_type 88 = .ok (.ifCond .eq 8, 3) := by decide +kernel
theorem dX3_type_91 : decode cX3_type 91 = .ok (.bipush 27, 2) := by decide +kernel
theorem dX3_type_93 : decode cX3_type 93 = .ok (.goto 5, 3) := by decide +kernel
theorem dX3_type_96 : decode cX3_type 96 = .ok (.bipush 31, 2) := by decide +kernel
theorem dX3_type_98 : decode cX3_type 98 = .ok (.invokevirtual 104, 3) := by decide +kernel
theorem dX3_type_101 : decode cX3_type 101 = .ok (.pop, 1) := by decide +kernel
theorem dX3_type_102 : decode cX3_type 102 = .ok (.aload_n 0, 1) := by decide +kernel
theorem dX3_type_103 : decode cX3_type 103 = .ok (.getfield 28, 3) := by decide +kernel
theorem dX3_type_106 : decode cX3_type 106 = .ok (.iload_n 1, 1) := by decide +kernel
theorem dX3_type_107 : decode cX3_type 107 = .ok (.invokestatic 43, 3) := by decide +kernel
theorem dX3_type_110 : decode cX3_type 110 = .ok (.invokevirtual 104, 3) := by decide +kernel
theorem dX3_type_113 : decode cX3_type 113 = .ok (.pop, 1) := by decide +kernel
theorem dX3_type_114 : decode cX3_type 114 = .ok (.iload 4, 2) := by decide +kernel
theorem dX3_type_116 : decode cX3_type 116 = .ok (.ireturn, 1) := by decide +kernel
set_option maxRecDepth 20000 in
theorem ggX3_rub_X0_has : GoodIn wsX3_rub wsX0_has := goodIn_r _ [8, 9, 10, 30, 31] (by decide +kernel) (by decide +kernel)
set_option maxRecDepth 20000 in
theorem gX3_rub_X0_has : GoodIn wsX3_rub (wsV RX3 122 RX0 yX0_has wsX0_has) := goodIn_app (goodIn_of _ (by decide +kernel)) ggX3_rub_X0_has
set_option maxRecDepth 20000 in
theorem ggX3_rub_X0_at : GoodIn wsX3_rub wsX0_at := goodIn_r _ [14, 10, 15, 5, 6, 7, 8, 9, 30, 31] (by decide +kernel) (by decide +kernel)
set_option maxRecDepth 20000 in
theorem gX3_rub_X0_at : GoodIn wsX3_rub (wsV RX3 127 RX0 yX0_at wsX0_at) := goodIn_app (goodIn_of _ (by decide +kernel)) ggX3_rub_X0_at
set_option maxRecDepth 20000 in
theorem ggX3_rub_X0_change : GoodIn wsX3_rub wsX0_change := goodIn_r _ [19, 10, 15, 5, 6, 7, 8, 9, 30, 31] (by decide +kernel) (by decide +kernel)
set_option maxRecDepth 20000 in
theorem gX3_rub_X0_change : GoodIn wsX3_rub (wsV RX3 130 RX0 yX0_change wsX0_change) := goodIn_app (goodIn_of _ (by decide +kernel)) ggX3_rub_X0_change
theorem dX3_rub_0 : decode cX3_rub 0 = .ok (.aload_n 0, 1) := by decide +kernel
theorem dX3_rub_1 : decode cX3_rub 1 = .ok (.getfield 28, 3) := by decide +kernel
theorem dX3_rub_4 : decode cX3_rub 4 = .ok (.iload_n 1, 1) := by decide +kernel
theorem dX3_rub_5 : decode cX3_rub 5 = .ok (.invokevirtual 122, 3) := by decide +kernel
theorem dX3_rub_8 : decode cX3_rub 8 = .ok (.ifCond .ne 13, 3) := by decide +kernel
theorem dX3_rub_11 : decode cX3_rub 11 = .ok (.new 36, 3) := by decide +kernel
theorem dX3_rub_14 : decode cX3_rub 14 = .ok (.dup, 1) := by decide +kernel
theorem dX3_rub_15 : decode cX3_rub 15 = .ok (.ldc 125, 2) := by decide +kernel
theorem dX3_rub_17 : decode cX3_rub 17 = .ok (.invokespecial 40, 3) := by decide +kernel
theorem dX3_rub_20 : decode cX3_rub 20 = .ok (.athrow, 1) := by decide +kernel
theorem dX3_rub_21 : decode cX3_rub 21 = .ok (.aload_n 0, 1) := by decide +kernel
theorem dX3_rub_22 : decode cX3_rub 22 = .ok (.getfield 28, 3) := by decide +kernel
theorem dX3_rub_25 : decode cX3_rub 25 = .ok (.iload_n 1, 1) := by decide +kernel
theorem dX3_rub_26 : decode cX3_rub 26 = .ok (.invokevirtual 127, 3) := by decide +kernel
theorem dX3_rub_29 : decode cX3_rub 29 = .ok (.istore_n 2, 1) := by decide +kernel
theorem dX3_rub_30 : decode cX3_rub 30 = .ok (.aload_n 0, 1) := by decide +kernel
theorem dX3_rub_31 : decode cX3_rub 31 = .ok (.getfield 28, 3) := by decide +kernel
theorem dX3_rub_34 : decode cX3_rub 34 = .ok (.iload_n 1, 1) := by decide +kernel
theorem dX3_rub_35 : decode cX3_rub 35 = .ok (.bipush 31, 2) := by decide +kernel
theorem dX3_rub_37 : decode cX3_rub 37 = .ok (.invokevirtual 130, 3) := by decide +kernel
theorem dX3_rub_40 : decode cX3_rub 40 = .ok (.iload_n 2, 1) := by decide +kernel
theorem dX3_rub_41 : decode cX3_rub 41 = .ok (.ireturn, 1) := by decide +kernel
set_option maxRecDepth 20000 in
theorem ggX3_run_X0_size : GoodIn wsX3_run wsX0_size := goodIn_r _ [13, 14, 102, 103] (by decide +kernel) (by decide +kernel)
set_option maxRecDepth 20000 in
theorem gX3_run_X0_size : GoodIn wsX3_run (wsV RX3 107 RX0 yX0_size wsX0_size) := goodIn_app (goodIn_of _ (by decide +kernel)) ggX3_run_X0_size
set_option maxRecDepth 20000 in
theorem ggX3_run_X0_at : GoodIn wsX3_run wsX0_at := goodIn_r _ [18, 19, 20, 21, 22, 12, 23, 14, 102, 103] (by decide +kernel) (by decide +kernel)
set_option maxRecDepth 20000 in
theorem gX3_run_X0_at : GoodIn wsX3_run (wsV RX3 127 RX0 yX0_at wsX0_at) := goodIn_app (goodIn_of _ (by decide +kernel)) ggX3_run_X0_at
set_option maxRecDepth 20000 in
theorem ggX3_run_X3_takeIn : GoodIn wsX3_run wsX3_takeIn := goodIn_r _ [28, 29, 30, 31, 32, 33, 34, 35, 36, 37, 38, 39, 40, 16, 17, 12, 18, 19, 20, 21, 22, 23, 14, 41, 42, 43, 27, 44, 45, 46, 47, 48, 49, 50, 51, 52, 53, 54, 55, 56, 57, 58, 59, 60, 61, 62, 63, 64, 65, 66, 67, 68, 69, 70, 71, 72, 73, 74, 75, 76, 77, 78, 79, 80, 81, 82, 83, 84, 85, 86, 87, 88, 89, 90, 91, 92, 93, 94, 95, 96, 97, 98, 99, 100, 101, 104, 105, 106, 102, 103, 107, 108, 109] (by decide +kernel) (by decide +kernel)
set_option maxRecDepth 20000 in
theorem gX3_run_X3_takeIn : GoodIn wsX3_run (wsV RX3 93 RX3 yX3_takeIn wsX3_takeIn) := goodIn_app (goodIn_of _ (by decide +kernel)) ggX3_run_X3_takeIn
theorem dX3_run_0 : decode cX3_run 0 = .ok (.iload_n 1, 1) := by decide +kernel
theorem dX3_run_1 : decode cX3_run 1 = .ok (.iconst 1, 1) := by decide +kernel
theorem dX3_run_2 : decode cX3_run 2 = .ok (.if_icmp .lt 9, 3) := by decide +kernel
theorem dX3_run_5 : decode cX3_run 5 = .ok (.iload_n 1, 1) := by decide +kernel
theorem dX3_run_6 : decode cX3_run 6 = .ok (.bipush 120, 2) := by decide +kernel
theorem dX3_run_8 : decode cX3_run 8 = .ok (.if_icmp .le 13, 3) := by decide +kernel
theorem dX3_run_11 : decode cX3_run 11 = .ok (.new 67, 3) := by decide +kernel
theorem dX3_run_14 : decode cX3_run 14 = .ok (.dup, 1) := by decide +kernel
theorem dX3_run_15 : decode cX3_run 15 = .ok (.ldc 133, 2) := by decide +kernel
theorem dX3_run_17 : decode cX3_run 17 = .ok (.invokespecial 71, 3) := by decide +kernel
theorem dX3_run_20 : decode cX3_run 20 = .ok (.athrow, 1) := by decide +kernel
theorem dX3_run_21 : decode cX3_run 21 = .ok (.iload_n 1, 1) := by decide +kernel
theorem dX3_run_22 : decode cX3_run 22 = .ok (.aload_n 0, 1) := by decide +kernel
theorem dX3_run_23 : decode cX3_run 23 = .ok (.getfield 28, 3) := by decide +kernel
theorem dX3_run_26 : decode cX3_run 26 = .ok (.invokevirtual 107, 3) := by decide +kernel
theorem dX3_run_29 : decode cX3_run 29 = .ok (.aload_n 0, 1) := by decide +kernel
theorem dX3_run_30 : decode cX3_run 30 = .ok (.getfield 135, 3) := by decide +kernel
theorem dX3_run_33 : decode cX3_run 33 = .ok (.isub, 1) := by decide +kernel
theorem dX3_run_34 : decode cX3_run 34 = .ok (.invokestatic 139, 3) := by decide +kernel
theorem dX3_run_37 : decode cX3_run 37 = .ok (.istore_n 2, 1) := by decide +kernel
theorem dX3_run_38 : decode cX3_run 38 = .ok (.iconst 0, 1) := by decide +kernel
theorem dX3_run_39 : decode cX3_run 39 = .ok (.istore_n 3, 1) := by decide +kernel
theorem dX3_run_40 : decode cX3_run 40 = .ok (.iload_n 3, 1) := by decide +kernel
theorem dX3_run_41 : decode cX3_run 41 = .ok (.iload_n 2, 1) := by decide +kernel
theorem dX3_run_42 : decode cX3_run 42 = .ok (.if_icmp .ge 35, 3) := by decide +kernel
theorem dX3_run_45 : decode cX3_run 45 = .ok (.aload_n 0, 1) := by decide +kernel
theorem dX3_run_46 : decode cX3_run 46 = .ok (.aload_n 0, 1) := by decide +kernel
theorem dX3_run_47 : decode cX3_run 47 = .ok (.getfield 28, 3) := by decide +kernel
theorem dX3_run_50 : decode cX3_run 50 = .ok (.aload_n 0, 1) := by decide +kernel
theorem dX3_run_51 : decode cX3_run 51 = .ok (.getfield 135, 3) := by decide +kernel
theorem dX3_run_54 : decode cX3_run 54 = .ok (.invokevirtual 127, 3) := by decide +kernel
theorem dX3_run_57 : decode cX3_run 57 = .ok (.invokevirtual 93, 3) := by decide +kernel
theorem dX3_run_60 : decode cX3_run 60 = .ok (.pop, 1) := by decide +kernel
theorem dX3_run_61 : decode cX3_run 61 = .ok (.aload_n 0, 1) := by decide +kernel
theorem dX3_run_62 : decode cX3_run 62 = .ok (.dup, 1) := by decide +kernel
theorem dX3_run_63 : decode cX3_run 63 = .ok (.getfield 135, 3) := by decide +kernel
theorem dX3_run_66 : decode cX3_run 66 = .ok (.iconst 1, 1) := by decide +kernel
theorem dX3_run_67 : decode cX3_run 67 = .ok (.iadd, 1) := by decide +kernel
theorem dX3_run_68 : decode cX3_run 68 = .ok (.putfield 135, 3) := by decide +kernel
theorem dX3_run_71 : decode cX3_run 71 = .ok (.iinc 3 1, 3) := by decide +kernel
theorem dX3_run_74 : decode cX3_run 74 = .ok (.goto (-34), 3) := by decide +kernel
theorem dX3_run_77 : decode cX3_run 77 = .ok (.iload_n 2, 1) := by decide +kernel
theorem dX3_run_78 : decode cX3_run 78 = .ok (.ireturn, 1) := by decide +kernel
set_option maxRecDepth 20000 in
theorem ggX3_wind_X0_size : GoodIn wsX3_wind wsX0_size := goodIn_r _ [9, 10, 21, 22] (by decide +kernel) (by decide +kernel)
set_option maxRecDepth 20000 in
theorem gX3_wind_X0_size : GoodIn wsX3_wind (wsV RX3 107 RX0 yX0_size wsX0_size) := goodIn_app (goodIn_of _ (by decide +kernel)) ggX3_wind_X0_size
theorem dX3_wind_0 : decode cX3_wind 0 = .ok (.iload_n 1, 1) := by decide +kernel
theorem dX3_wind_1 : decode cX3_wind 1 = .ok (.ifCond .lt 14, 3) := by decide +kernel
theorem dX3_wind_4 : decode cX3_wind 4 = .ok (.iload_n 1, 1) := by decide +kernel
theorem dX3_wind_5 : decode cX3_wind 5 = .ok (.aload_n 0, 1) := by decide +kernel
theorem dX3_wind_6 : decode cX3_wind 6 = .ok (.getfield 28, 3) := by decide +kernel
theorem dX3_wind_9 : decode cX3_wind 9 = .ok (.invokevirtual 107, 3) := by decide +kernel
theorem dX3_wind_12 : decode cX3_wind 12 = .ok (.if_icmp .le 13, 3) := by decide +kernel
theorem dX3_wind_15 : decode cX3_wind 15 = .ok (.new 36, 3) := by decide +kernel
theorem dX3_wind_18 : decode cX3_wind 18 = .ok (.dup, 1) := by decide +kernel
theorem dX3_wind_19 : decode cX3_wind 19 = .ok (.ldc 125, 2) := by decide +kernel
theorem dX3_wind_21 : decode cX3_wind 21 = .ok (.invokespecial 40, 3) := by decide +kernel
theorem dX3_wind_24 : decode cX3_wind 24 = .ok (.athrow, 1) := by decide +kernel
theorem dX3_wind_25 : decode cX3_wind 25 = .ok (.aload_n 0, 1) := by decide +kernel
theorem dX3_wind_26 : decode cX3_wind 26 = .ok (.getfield 135, 3) := by decide +kernel
theorem dX3_wind_29 : decode cX3_wind 29 = .ok (.istore_n 2, 1) := by decide +kernel
theorem dX3_wind_30 : decode cX3_wind 30 = .ok (.aload_n 0, 1) := by decide +kernel
theorem dX3_wind_31 : decode cX3_wind 31 = .ok (.iload_n 1, 1) := by decide +kernel
theorem dX3_wind_32 : decode cX3_wind 32 = .ok (.putfield 135, 3) := by decide +kernel
theorem dX3_wind_35 : decode cX3_wind 35 = .ok (.iload_n 2, 1) := by decide +kernel
theorem dX3_wind_36 : decode cX3_wind 36 = .ok (.ireturn, 1) := by decide +kernel
set_option maxRecDepth 20000 in
theorem ggX3_tape_X0_has : GoodIn wsX3_tape wsX0_has := goodIn_r _ [8, 9, 10, 26, 27] (by decide +kernel) (by decide +kernel)
set_option maxRecDepth 20000 in
theorem gX3_tape_X0_has : GoodIn wsX3_tape (wsV RX3 122 RX0 yX0_has wsX0_has) := goodIn_app (goodIn_of _ (by decide +kernel)) ggX3_tape_X0_has
set_option maxRecDepth 20000 in
theorem ggX3_tape_X0_at : GoodIn wsX3_tape wsX0_at := goodIn_r _ [14, 10, 15, 5, 6, 7, 8, 9, 26, 27] (by decide +kernel) (by decide +kernel)
set_option maxRecDepth 20000 in
theorem gX3_tape_X0_at : GoodIn wsX3_tape (wsV RX3 127 RX0 yX0_at wsX0_at) := goodIn_app (goodIn_of _ (by decide +kernel)) ggX3_tape_X0_at
theorem dX3_tape_0 : decode cX3_tape 0 = .ok (.aload_n 0, 1) := by decide +kernel
theorem dX3_tape_1 : decode cX3_tape 1 = .ok (.getfield 28, 3) := by decide +kernel
theorem dX3_tape_4 : decode cX3_tape 4 = .ok (.iload_n 1, 1) := by decide +kernel
theorem dX3_tape_5 : decode cX3_tape 5 = .ok (.invokevirtual 122, 3) := by decide +kernel
theorem dX3_tape_8 : decode cX3_tape 8 = .ok (.ifCond .ne 13, 3) := by decide +kernel
theorem dX3_tape_11 : decode cX3_tape 11 = .ok (.new 36, 3) := by decide +kernel
theorem dX3_tape_14 : decode cX3_tape 14 = .ok (.dup, 1) := by decide +kernel
theorem dX3_tape_15 : decode cX3_tape 15 = .ok (.ldc 125, 2) := by decide +kernel
theorem dX3_tape_17 : decode cX3_tape 17 = .ok (.invokespecial 40, 3) := by decide +kernel
theorem dX3_tape_20 : decode cX3_tape 20 = .ok (.athrow, 1) := by decide +kernel
theorem dX3_tape_21 : decode cX3_tape 21 = .ok (.aload_n 0, 1) := by decide +kernel
theorem dX3_tape_22 : decode cX3_tape 22 = .ok (.getfield 28, 3) := by decide +kernel
theorem dX3_tape_25 : decode cX3_tape 25 = .ok (.iload_n 1, 1) := by decide +kernel
theorem dX3_tape_26 : decode cX3_tape 26 = .ok (.invokevirtual 127, 3) := by decide +kernel
theorem dX3_tape_29 : decode cX3_tape 29 = .ok (.ireturn, 1) := by decide +kernel
set_option maxRecDepth 20000 in
theorem ggX3_page_X1_row : GoodIn wsX3_page wsX1_row := goodIn_r _ [8, 9, 10, 11, 34, 35, 36] (by decide +kernel) (by decide +kernel)
set_option maxRecDepth 20000 in
theorem gX3_page_X1_row : GoodIn wsX3_page (wsV RX3 145 RX1 yX1_row wsX1_row) := goodIn_app (goodIn_of _ (by decide +kernel)) ggX3_page_X1_row
set_option maxRecDepth 20000 in
theorem ggX3_page_X0_has : GoodIn wsX3_page wsX0_has := goodIn_r _ [16, 17, 18, 37, 38] (by decide +kernel) (by decide +kernel)
set_option maxRecDepth 20000 in
theorem gX3_page_X0_has : GoodIn wsX3_page (wsV RX3 122 RX0 yX0_has wsX0_has) := goodIn_app (goodIn_of _ (by decide +kernel)) ggX3_page_X0_has
set_option maxRecDepth 20000 in
theorem ggX3_page_X0_at : GoodIn wsX3_page wsX0_at := goodIn_r _ [22, 18, 23, 13, 14, 15, 16, 17, 37, 38] (by decide +kernel) (by decide +kernel)
set_option maxRecDepth 20000 in
theorem gX3_page_X0_at : GoodIn wsX3_page (wsV RX3 127 RX0 yX0_at wsX0_at) := goodIn_app (goodIn_of _ (by decide +kernel)) ggX3_page_X0_at
theorem dX3_page_0 : decode cX3_page 0 = .ok (.aload_n 0, 1) := by decide +kernel
theorem dX3_page_1 : decode cX3_page 1 = .ok (.getfield 19, 3) := by decide +kernel
theorem dX3_page_4 : decode cX3_page 4 = .ok (.iload_n 1, 1) := by decide +kernel
theorem dX3_page_5 : decode cX3_page 5 = .ok (.invokevirtual 145, 3) := by decide +kernel
theorem dX3_page_8 : decode cX3_page 8 = .ok (.astore_n 3, 1) := by decide +kernel
theorem dX3_page_9 : decode cX3_page 9 = .ok (.aload_n 3, 1) := by decide +kernel
theorem dX3_page_10 : decode cX3_page 10 = .ok (.ifnull 11, 3) := by decide +kernel
theorem dX3_page_13 : decode cX3_page 13 = .ok (.aload_n 3, 1) := by decide +kernel
theorem dX3_page_14 : decode cX3_page 14 = .ok (.iload_n 2, 1) := by decide +kernel
theorem dX3_page_15 : decode cX3_page 15 = .ok (.invokevirtual 122, 3) := by decide +kernel
theorem dX3_page_18 : decode cX3_page 18 = .ok (.ifCond .ne 13, 3) := by decide +kernel
theorem dX3_page_21 : decode cX3_page 21 = .ok (.new 36, 3) := by decide +kernel
theorem dX3_page_24 : decode cX3_page 24 = .ok (.dup, 1) := by decide +kernel
theorem dX3_page_25 : decode cX3_page 25 = .ok (.ldc 149, 2) := by decide +kernel
theorem dX3_page_27 : decode cX3_page 27 = .ok (.invokespecial 40, 3) := by decide +kernel
theorem dX3_page_30 : decode cX3_page 30 = .ok (.athrow, 1) := by decide +kernel
theorem dX3_page_31 : decode cX3_page 31 = .ok (.aload_n 3, 1) := by decide +kernel
theorem dX3_page_32 : decode cX3_page 32 = .ok (.iload_n 2, 1) := by decide +kernel
theorem dX3_page_33 : decode cX3_page 33 = .ok (.invokevirtual 127, 3) := by decide +kernel
theorem dX3_page_36 : decode cX3_page 36 = .ok (.ireturn, 1) := by decide +kernel
set_option maxRecDepth 20000 in
theorem ggX3_length_X1_row : GoodIn wsX3_length wsX1_row := goodIn_r _ [8, 9, 10, 11, 28, 29, 30] (by decide +kernel) (by decide +kernel)
set_option maxRecDepth 20000 in
theorem gX3_length_X1_row : GoodIn wsX3_length (wsV RX3 145 RX1 yX1_row wsX1_row) := goodIn_app (goodIn_of _ (by decide +kernel)) ggX3_length_X1_row
set_option maxRecDepth 20000 in
theorem ggX3_length_X0_size : GoodIn wsX3_length wsX0_size := goodIn_r _ [16, 17, 31, 32] (by decide +kernel) (by decide +kernel)
set_option maxRecDepth 20000 in
theorem gX3_length_X0_size : GoodIn wsX3_length (wsV RX3 107 RX0 yX0_size wsX0_size) := goodIn_app (goodIn_of _ (by decide +kernel)) ggX3_length_X0_size
theorem dX3_length_0 : decode cX3_length 0 = .ok (.aload_n 0, 1) := by decide +kernel
theorem dX3_length_1 : decode cX3_length 1 = .ok (.getfield 19, 3) := by decide +kernel
theorem dX3_length_4 : decode cX3_length 4 = .ok (.iload_n 1, 1) := by decide +kernel
theorem dX3_length_5 : decode cX3_length 5 = .ok (.invokevirtual 145, 3) := by decide +kernel
theorem dX3_length_8 : decode cX3_length 8 = .ok (.astore_n 2, 1) := by decide +kernel
theorem dX3_length_9 : decode cX3_length 9 = .ok (.aload_n 2, 1) := by decide +kernel
theorem dX3_length_10 : decode cX3_length 10 = .ok (.ifnonnull 13, 3) := by decide +kernel
theorem dX3_length_13 : decode cX3_length 13 = .ok (.new 36, 3) := by decide +kernel
theorem dX3_length_16 : decode cX3_length 16 = .ok (.dup, 1) := by decide +kernel
theorem dX3_length_17 : decode cX3_length 17 = .ok (.ldc 151, 2) := by decide +kernel
theorem dX3_length_19 : decode cX3_length 19 = .ok (.invokespecial 40, 3) := by decide +kernel
theorem dX3_length_22 : decode cX3_length 22 = .ok (.athrow, 1) := by decide +kernel
theorem dX3_length_23 : decode cX3_length 23 = .ok (.aload_n 2, 1) := by decide +kernel
theorem dX3_length_24 : decode cX3_length 24 = .ok (.invokevirtual 107, 3) := by decide +kernel
theorem dX3_length_27 : decode cX3_length 27 = .ok (.ireturn, 1) := by decide +kernel
set_option maxRecDepth 20000 in
theorem ggX3_count_X3_counted : GoodIn wsX3_count wsX3_counted := goodIn_r _ [7, 8, 9, 10, 11, 12, 13, 14, 15, 16, 17, 18, 19, 20, 21, 22, 23, 24, 25, 26, 27, 28, 29, 30, 31, 32, 33, 34, 35, 36, 37, 38, 39, 40, 41, 42, 43, 44, 45, 46, 47, 48, 49, 50, 51, 52, 53, 54, 55, 56, 57, 58, 59, 60, 61, 62, 63, 64] (by decide +kernel) (by decide +kernel)
set_option maxRecDepth 20000 in
theorem gX3_count_X3_counted : GoodIn wsX3_count (wsV RX3 155 RX3 yX3_counted wsX3_counted) := goodIn_app (goodIn_of _ (by decide +kernel)) ggX3_count_X3_counted
theorem dX3_count_0 : decode cX3_count 0 = .ok (.iload_n 1, 1) := by decide +kernel
theorem dX3_count_1 : decode cX3_count 1 = .ok (.ifCond .lt 9, 3) := by decide +kernel
theorem dX3_count_4 : decode cX3_count 4 = .ok (.iload_n 1, 1) := by decide +kernel
theorem dX3_count_5 : decode cX3_count 5 = .ok (.bipush 10, 2) := by decide +kernel
theorem dX3_count_7 : decode cX3_count 7 = .ok (.if_icmp .le 13, 3) := by decide +kernel
theorem dX3_count_10 : decode cX3_count 10 = .ok (.new 36, 3) := by decide +kernel
theorem dX3_count_13 : decode cX3_count 13 = .ok (.dup, 1) := by decide +kernel
theorem dX3_count_14 : decode cX3_count 14 = .ok (.ldc 153, 2) := by decide +kernel
theorem dX3_count_16 : decode cX3_count 16 = .ok (.invokespecial 40, 3) := by decide +kernel
theorem dX3_count_19 : decode cX3_count 19 = .ok (.athrow, 1) := by decide +kernel
theorem dX3_count_20 : decode cX3_count 20 = .ok (.aload_n 0, 1) := by decide +kernel
theorem dX3_count_21 : decode cX3_count 21 = .ok (.iload_n 1, 1) := by decide +kernel
theorem dX3_count_22 : decode cX3_count 22 = .ok (.invokevirtual 155, 3) := by decide +kernel
theorem dX3_count_25 : decode cX3_count 25 = .ok (.ireturn, 1) := by decide +kernel
set_option maxRecDepth 20000 in
theorem ggX3_would_X3_isCode : GoodIn wsX3_would wsX3_isCode := goodIn_r _ [8] (by decide +kernel) (by decide +kernel)
set_option maxRecDepth 20000 in
theorem gX3_would_X3_isCode : GoodIn wsX3_would (va_wsS RX3 47 yX3_isCode wsX3_isCode) := goodIn_app (goodIn_of _ (by decide +kernel)) ggX3_would_X3_isCode
set_option maxRecDepth 20000 in
theorem ggX3_would_X2_readAs : GoodIn wsX3_would wsX2_readAs := goodIn_r _ [13, 14, 15, 16, 17, 18, 19, 20, 21, 22, 23, 24, 25, 26, 27, 38, 39, 40, 41, 42] (by decide +kernel) (by decide +kernel)
set_option maxRecDepth 20000 in
theorem gX3_would_X2_readAs : GoodIn wsX3_would (wsV RX3 161 RX2 yX2_readAs wsX2_readAs) := goodIn_app (goodIn_of _ (by decide +kernel)) ggX3_would_X2_readAs
theorem dX3_would_0 : decode cX3_would 0 = .ok (.iload_n 1, 1) := by decide +kernel
theorem dX3_would_1 : decode cX3_would 1 = .ok (.invokestatic 47, 3) := by decide +kernel
theorem dX3_would_4 : decode cX3_would 4 = .ok (.ifCond .ne 13, 3) := by decide +kernel
theorem dX3_would_7 : decode cX3_would 7 = .ok (.new 36, 3) := by decide +kernel
theorem dX3_would_10 : decode cX3_would 10 = .ok (.dup, 1) := by decide +kernel
theorem dX3_would_11 : decode cX3_would 11 = .ok (.ldc 50, 2) := by decide +kernel
theorem dX3_would_13 : decode cX3_would 13 = .ok (.invokespecial 40, 3) := by decide +kernel
theorem dX3_would_16 : decode cX3_would 16 = .ok (.athrow, 1) := by decide +kernel
theorem dX3_would_17 : decode cX3_would 17 = .ok (.aload_n 0, 1) := by decide +kernel
theorem dX3_would_18 : decode cX3_would 18 = .ok (.getfield 10, 3) := by decide +kernel
theorem dX3_would_21 : decode cX3_would 21 = .ok (.iload_n 1, 1) := by decide +kernel
theorem dX3_would_22 : decode cX3_would 22 = .ok (.aload_n 0, 1) := by decide +kernel
theorem dX3_would_23 : decode cX3_would 23 = .ok (.getfield 158, 3) := by decide +kernel
theorem dX3_would_26 : decode cX3_would 26 = .ok (.invokevirtual 161, 3) := by decide +kernel
theorem dX3_would_29 : decode cX3_would 29 = .ok (.ireturn, 1) := by decide +kernel
set_option maxRecDepth 20000 in
theorem ggX3_wrong_X0_size : GoodIn wsX3_wrong wsX0_size := goodIn_r _ [9, 10, 39, 40] (by decide +kernel) (by decide +kernel)
set_option maxRecDepth 20000 in
theorem gX3_wrong_X0_size : GoodIn wsX3_wrong (wsV RX3 107 RX0 yX0_size wsX0_size) := goodIn_app (goodIn_of _ (by decide +kernel)) ggX3_wrong_X0_size
set_option maxRecDepth 20000 in
theorem ggX3_wrong_X0_at : GoodIn wsX3_wrong wsX0_at := goodIn_r _ [14, 15, 16, 17, 18, 8, 19, 10, 39, 40] (by decide +kernel) (by decide +kernel)
set_option maxRecDepth 20000 in
theorem gX3_wrong_X0_at : GoodIn wsX3_wrong (wsV RX3 127 RX0 yX0_at wsX0_at) := goodIn_app (goodIn_of _ (by decide +kernel)) ggX3_wrong_X0_at
set_option maxRecDepth 20000 in
theorem ggX3_wrong_X2_readAs : GoodIn wsX3_wrong wsX2_readAs := goodIn_r _ [24, 25, 26, 27, 28, 12, 13, 8, 14, 15, 16, 17, 18, 19, 10, 41, 42, 43, 39, 40] (by decide +kernel) (by decide +kernel)
set_option maxRecDepth 20000 in
theorem gX3_wrong_X2_readAs : GoodIn wsX3_wrong (wsV RX3 161 RX2 yX2_readAs wsX2_readAs) := goodIn_app (goodIn_of _ (by decide +kernel)) ggX3_wrong_X2_readAs
theorem dX3_wrong_0 : decode cX3_wrong 0 = .ok (.iconst 0, 1) := by decide +kernel
theorem dX3_wrong_1 : decode cX3_wrong 1 = .ok (.istore_n 1, 1) := by decide +kernel
theorem dX3_wrong_2 : decode cX3_wrong 2 = .ok (.aload_n 0, 1) := by decide +kernel
theorem dX3_wrong_3 : decode cX3_wrong 3 = .ok (.getfield 135, 3) := by decide +kernel
theorem dX3_wrong_6 : decode cX3_wrong 6 = .ok (.istore_n 2, 1) := by decide +kernel
theorem dX3_wrong_7 : decode cX3_wrong 7 = .ok (.iload_n 2, 1) := by decide +kernel
theorem dX3_wrong_8 : decode cX3_wrong 8 = .ok (.aload_n 0, 1) := by decide +kernel
theorem dX3_wrong_9 : decode cX3_wrong 9 = .ok (.getfield 28, 3) := by decide +kernel
theorem dX3_wrong_12 : decode cX3_wrong 12 = .ok (.invokevirtual 107, 3) := by decide +kernel
theorem dX3_wrong_15 : decode cX3_wrong 15 = .ok (.if_icmp .ge 44, 3) := by decide +kernel
theorem dX3_wrong_18 : decode cX3_wrong 18 = .ok (.aload_n 0, 1) := by decide +kernel
theorem dX3_wrong_19 : decode cX3_wrong 19 = .ok (.getfield 28, 3) := by decide +kernel
theorem dX3_wrong_22 : decode cX3_wrong 22 = .ok (.iload_n 2, 1) := by decide +kernel
theorem dX3_wrong_23 : decode cX3_wrong 23 = .ok (.invokevirtual 127, 3) := by decide +kernel
theorem dX3_wrong_26 : decode cX3_wrong 26 = .ok (.istore_n 3, 1) := by decide +kernel
theorem dX3_wrong_27 : decode cX3_wrong 27 = .ok (.aload_n 0, 1) := by decide +kernel
theorem dX3_wrong_28 : decode cX3_wrong 28 = .ok (.getfield 10, 3) := by decide +kernel
theorem dX3_wrong_31 : decode cX3_wrong 31 = .ok (.iload_n 3, 1) := by decide +kernel
theorem dX3_wrong_32 : decode cX3_wrong 32 = .ok (.aload_n 0, 1) := by decide +kernel
theorem dX3_wrong_33 : decode cX3_wrong 33 = .ok (.getfield 158, 3) := by decide +kernel
theorem dX3_wrong_36 : decode cX3_wrong 36 = .ok (.iload_n 2, 1) := by decide +kernel
theorem dX3_wrong_37 : decode cX3_wrong 37 = .ok (.iadd, 1) := by decide +kernel
theorem dX3_wrong_38 : decode cX3_wrong 38 = .ok (.aload_n 0, 1) := by decide +kernel
theorem dX3_wrong_39 : decode cX3_wrong 39 = .ok (.getfield 135, 3) := by decide +kernel
theorem dX3_wrong_42 : decode cX3_wrong 42 = .ok (.isub, 1) := by decide +kernel
theorem dX3_wrong_43 : decode cX3_wrong 43 = .ok (.invokevirtual 161, 3) := by decide +kernel
theorem dX3_wrong_46 : decode cX3_wrong 46 = .ok (.iload_n 3, 1) := by decide +kernel
theorem dX3_wrong_47 : decode cX3_wrong 47 = .ok (.if_icmp .eq 6, 3) := by decide +kernel
theorem dX3_wrong_50 : decode cX3_wrong 50 = .ok (.iinc 1 1, 3) := by decide +kernel
theorem dX3_wrong_53 : decode cX3_wrong 53 = .ok (.iinc 2 1, 3) := by decide +kernel
theorem dX3_wrong_56 : decode cX3_wrong 56 = .ok (.goto (-49), 3) := by decide +kernel
theorem dX3_wrong_59 : decode cX3_wrong 59 = .ok (.iload_n 1, 1) := by decide +kernel
theorem dX3_wrong_60 : decode cX3_wrong 60 = .ok (.ireturn, 1) := by decide +kernel
set_option maxRecDepth 20000 in
theorem ggX3_idle_X0_size : GoodIn wsX3_idle wsX0_size := goodIn_r _ [6, 7, 51, 52] (by decide +kernel) (by decide +kernel)
set_option maxRecDepth 20000 in
theorem gX3_idle_X0_size : GoodIn wsX3_idle (wsV RX3 107 RX0 yX0_size wsX0_size) := goodIn_app (goodIn_of _ (by decide +kernel)) ggX3_idle_X0_size
set_option maxRecDepth 20000 in
theorem ggX3_idle_X0_at : GoodIn wsX3_idle wsX0_at := goodIn_r _ [11, 12, 13, 14, 15, 5, 16, 7, 51, 52] (by decide +kernel) (by decide +kernel)
set_option maxRecDepth 20000 in
theorem gX3_idle_X0_at : GoodIn wsX3_idle (wsV RX3 127 RX0 yX0_at wsX0_at) := goodIn_app (goodIn_of _ (by decide +kernel)) ggX3_idle_X0_at
set_option maxRecDepth 20000 in
theorem ggX3_idle_X3_figuresBehind : GoodIn wsX3_idle wsX3_figuresBehind := goodIn_r _ [21, 22, 23, 24, 20, 25, 26, 41, 42, 43, 44, 45, 46, 47, 48, 49, 50] (by decide +kernel) (by decide +kernel)
set_option maxRecDepth 20000 in
theorem gX3_idle_X3_figuresBehind : GoodIn wsX3_idle (wsV RX3 164 RX3 yX3_figuresBehind wsX3_figuresBehind) := goodIn_app (goodIn_of _ (by decide +kernel)) ggX3_idle_X3_figuresBehind
set_option maxRecDepth 20000 in
theorem ggX3_idle_X3_isShift : GoodIn wsX3_idle wsX3_isShift := goodIn_r _ [29] (by decide +kernel) (by decide +kernel)
set_option maxRecDepth 20000 in
theorem gX3_idle_X3_isShift : GoodIn wsX3_idle (va_wsS RX3 168 yX3_isShift wsX3_isShift) := goodIn_app (goodIn_of _ (by decide +kernel)) ggX3_idle_X3_isShift
set_option maxRecDepth 20000 in
theorem ggX3_idle_X3_servesBehind : GoodIn wsX3_idle wsX3_servesBehind := goodIn_r _ [33, 1, 2, 3, 4, 5, 6, 7, 8, 9, 10, 11, 12, 13, 14, 15, 16, 34, 35, 20, 36, 37, 38, 39, 40, 22, 23, 24, 25, 26, 41, 42, 43, 44, 45, 46, 47, 48, 49, 50, 51, 52] (by decide +kernel) (by decide +kernel)
set_option maxRecDepth 20000 in
theorem gX3_idle_X3_servesBehind : GoodIn wsX3_idle (wsV RX3 171 RX3 yX3_servesBehind wsX3_servesBehind) := goodIn_app (goodIn_of _ (by decide +kernel)) ggX3_idle_X3_servesBehind
theorem dX3_idle_0 : decode cX3_idle 0 = .ok (.iconst 0, 1) := by decide +kernel
theorem dX3_idle_1 : decode cX3_idle 1 = .ok (.istore_n 1, 1) := by decide +kernel
theorem dX3_idle_2 : decode cX3_idle 2 = .ok (.iconst 0, 1) := by decide +kernel
theorem dX3_idle_3 : decode cX3_idle 3 = .ok (.istore_n 2, 1) := by decide +kernel
theorem dX3_idle_4 : decode cX3_idle 4 = .ok (.iconst 0, 1) := by decide +kernel
theorem dX3_idle_5 : decode cX3_idle 5 = .ok (.istore_n 3, 1) := by decide +kernel
theorem dX3_idle_6 : decode cX3_idle 6 = .ok (.iload_n 3, 1) := by decide +kernel
theorem dX3_idle_7 : decode cX3_idle 7 = .ok (.aload_n 0, 1) := by decide +kernel
theorem dX3_idle_8 : decode cX3_idle 8 = .ok (.getfield 28, 3) := by decide +kernel
theorem dX3_idle_11 : decode cX3_idle 11 = .ok (.invokevirtual 107, 3) := by decide +kernel
theorem dX3_idle_14 : decode cX3_idle 14 = .ok (.if_icmp .ge 56, 3) := by decide +kernel
theorem dX3_idle_17 : decode cX3_idle 17 = .ok (.aload_n 0, 1) := by decide +kernel
theorem dX3_idle_18 : decode cX3_idle 18 = .ok (.getfield 28, 3) := by decide +kernel
theorem dX3_idle_21 : decode cX3_idle 21 = .ok (.iload_n 3, 1) := by decide +kernel
theorem dX3_idle_22 : decode cX3_idle 22 = .ok (.invokevirtual 127, 3) := by decide +kernel
theorem dX3_idle_25 : decode cX3_idle 25 = .ok (.istore 4, 2) := by decide +kernel
theorem dX3_idle_27 : decode cX3_idle 27 = .ok (.aload_n 0, 1) := by decide +kernel
theorem dX3_idle_28 : decode cX3_idle 28 = .ok (.iload 4, 2) := by decide +kernel
theorem dX3_idle_30 : decode cX3_idle 30 = .ok (.iload_n 2, 1) := by decide +kernel
theorem dX3_idle_31 : decode cX3_idle 31 = .ok (.invokevirtual 164, 3) := by decide +kernel
theorem dX3_idle_34 : decode cX3_idle 34 = .ok (.istore 5, 2) := by decide +kernel
theorem dX3_idle_36 : decode cX3_idle 36 = .ok (.iload 4, 2) := by decide +kernel
theorem dX3_idle_38 : decode cX3_idle 38 = .ok (.invokestatic 168, 3) := by decide +kernel
theorem dX3_idle_41 : decode cX3_idle 41 = .ok (.ifCond .eq 20, 3) := by decide +kernel
theorem dX3_idle_44 : decode cX3_idle 44 = .ok (.iload 5, 2) := by decide +kernel
theorem dX3_idle_46 : decode cX3_idle 46 = .ok (.iload_n 2, 1) := by decide +kernel
theorem dX3_idle_47 : decode cX3_idle 47 = .ok (.if_icmp .eq 11, 3) := by decide +kernel
theorem dX3_idle_50 : decode cX3_idle 50 = .ok (.aload_n 0, 1) := by decide +kernel
theorem dX3_idle_51 : decode cX3_idle 51 = .ok (.iload_n 3, 1) := by decide +kernel
theorem dX3_idle_52 : decode cX3_idle 52 = .ok (.invokevirtual 171, 3) := by decide +kernel
theorem dX3_idle_55 : decode cX3_idle 55 = .ok (.ifCond .ne 6, 3) := by decide +kernel
theorem dX3_idle_58 : decode cX3_idle 58 = .ok (.iinc 1 1, 3) := by decide +kernel
theorem dX3_idle_61 : decode cX3_idle 61 = .ok (.iload 5, 2) := by decide +kernel
theorem dX3_idle_63 : decode cX3_idle 63 = .ok (.istore_n 2, 1) := by decide +kernel
theorem dX3_idle_64 : decode cX3_idle 64 = .ok (.iinc 3 1, 3) := by decide +kernel
theorem dX3_idle_67 : decode cX3_idle 67 = .ok (.goto (-61), 3) := by decide +kernel
theorem dX3_idle_70 : decode cX3_idle 70 = .ok (.iload_n 1, 1) := by decide +kernel
theorem dX3_idle_71 : decode cX3_idle 71 = .ok (.ireturn, 1) := by decide +kernel
set_option maxRecDepth 20000 in
theorem ggX3_prints_X0_has : GoodIn wsX3_prints wsX0_has := goodIn_r _ [8, 9, 10, 54, 55] (by decide +kernel) (by decide +kernel)
set_option maxRecDepth 20000 in
theorem gX3_prints_X0_has : GoodIn wsX3_prints (wsV RX3 122 RX0 yX0_has wsX0_has) := goodIn_app (goodIn_of _ (by decide +kernel)) ggX3_prints_X0_has
set_option maxRecDepth 20000 in
theorem ggX3_prints_X0_at : GoodIn wsX3_prints wsX0_at := goodIn_r _ [14, 10, 15, 5, 6, 7, 8, 9, 54, 55] (by decide +kernel) (by decide +kernel)
set_option maxRecDepth 20000 in
theorem gX3_prints_X0_at : GoodIn wsX3_prints (wsV RX3 127 RX0 yX0_at wsX0_at) := goodIn_app (goodIn_of _ (by decide +kernel)) ggX3_prints_X0_at
set_option maxRecDepth 20000 in
theorem ggX3_prints_X3_figuresAhead : GoodIn wsX3_prints wsX3_figuresAhead := goodIn_r _ [20, 3, 21, 22, 23, 7, 24, 9, 11, 12, 13, 14, 10, 15, 5, 6, 8, 25, 26, 27, 19, 28, 29, 30, 31, 32, 33, 44, 45, 46, 47, 48, 49, 50, 51, 52, 53, 54, 55] (by decide +kernel) (by decide +kernel)
set_option maxRecDepth 20000 in
theorem gX3_prints_X3_figuresAhead : GoodIn wsX3_prints (wsV RX3 174 RX3 yX3_figuresAhead wsX3_figuresAhead) := goodIn_app (goodIn_of _ (by decide +kernel)) ggX3_prints_X3_figuresAhead
set_option maxRecDepth 20000 in
theorem ggX3_prints_X3_characterOf : GoodIn wsX3_prints wsX3_characterOf := goodIn_r _ [36, 37, 38, 19, 39, 40, 41, 42, 43] (by decide +kernel) (by decide +kernel)
set_option maxRecDepth 20000 in
theorem gX3_prints_X3_characterOf : GoodIn wsX3_prints (va_wsS RX3 52 yX3_characterOf wsX3_characterOf) := goodIn_app (goodIn_of _ (by decide +kernel)) ggX3_prints_X3_characterOf
theorem dX3_prints_0 : decode cX3_prints 0 = .ok (.aload_n 0, 1) := by decide +kernel
theorem dX3_prints_1 : decode cX3_prints 1 = .ok (.getfield 28, 3) := by decide +kernel
theorem dX3_prints_4 : decode cX3_prints 4 = .ok (.iload_n 1, 1) := by decide +kernel
theorem dX3_prints_5 : decode cX3_prints 5 = .ok (.invokevirtual 122, 3) := by decide +kernel
theorem dX3_prints_8 : decode cX3_prints 8 = .ok (.ifCond .ne 13, 3) := by decide +kernel
theorem dX3_prints_11 : decode cX3_prints 11 = .ok (.new 36, 3) := by decide +kernel
theorem dX3_prints_14 : decode cX3_prints 14 = .ok (.dup, 1) := by decide +kernel
theorem dX3_prints_15 : decode cX3_prints 15 = .ok (.ldc 125, 2) := by decide +kernel
theorem dX3_prints_17 : decode cX3_prints 17 = .ok (.invokespecial 40, 3) := by decide +kernel
theorem dX3_prints_20 : decode cX3_prints 20 = .ok (.athrow, 1) := by decide +kernel
theorem dX3_prints_21 : decode cX3_prints 21 = .ok (.aload_n 0, 1) := by decide +kernel
theorem dX3_prints_22 : decode cX3_prints 22 = .ok (.getfield 28, 3) := by decide +kernel
theorem dX3_prints_25 : decode cX3_prints 25 = .ok (.iload_n 1, 1) := by decide +kernel
theorem dX3_prints_26 : decode cX3_prints 26 = .ok (.invokevirtual 127, 3) := by decide +kernel
theorem dX3_prints_29 : decode cX3_prints 29 = .ok (.aload_n 0, 1) := by decide +kernel
theorem dX3_prints_30 : decode cX3_prints 30 = .ok (.iload_n 1, 1) := by decide +kernel
theorem dX3_prints_31 : decode cX3_prints 31 = .ok (.invokevirtual 174, 3) := by decide +kernel
theorem dX3_prints_34 : decode cX3_prints 34 = .ok (.invokestatic 52, 3) := by decide +kernel
theorem dX3_prints_37 : decode cX3_prints 37 = .ok (.ireturn, 1) := by decide +kernel
set_option maxRecDepth 20000 in
theorem ggX3_mean_X1_lines : GoodIn wsX3_mean wsX1_lines := goodIn_r _ [6, 7, 34, 35, 36] (by decide +kernel) (by decide +kernel)
set_option maxRecDepth 20000 in
theorem gX3_mean_X1_lines : GoodIn wsX3_mean (wsV RX3 177 RX1 yX1_lines wsX1_lines) := goodIn_app (goodIn_of _ (by decide +kernel)) ggX3_mean_X1_lines
set_option maxRecDepth 20000 in
theorem ggX3_mean_X1_characters : GoodIn wsX3_mean wsX1_characters := goodIn_r _ [11, 7, 12, 13, 14, 5, 15, 16, 17, 18, 19, 20, 21, 22, 23, 34, 35, 36, 37, 38] (by decide +kernel) (by decide +kernel)
set_option maxRecDepth 20000 in
theorem gX3_mean_X1_characters : GoodIn wsX3_mean (wsV RX3 180 RX1 yX1_characters wsX1_characters) := goodIn_app (goodIn_of _ (by decide +kernel)) ggX3_mean_X1_characters
theorem dX3_mean_0 : decode cX3_mean 0 = .ok (.aload_n 0, 1) := by decide +kernel
theorem dX3_mean_1 : decode cX3_mean 1 = .ok (.getfield 19, 3) := by decide +kernel
theorem dX3_mean_4 : decode cX3_mean 4 = .ok (.invokevirtual 177, 3) := by decide +kernel
theorem dX3_mean_7 : decode cX3_mean 7 = .ok (.istore_n 1, 1) := by decide +kernel
theorem dX3_mean_8 : decode cX3_mean 8 = .ok (.iload_n 1, 1) := by decide +kernel
theorem dX3_mean_9 : decode cX3_mean 9 = .ok (.iconst 1, 1) := by decide +kernel
theorem dX3_mean_10 : decode cX3_mean 10 = .ok (.if_icmp .ge 7, 3) := by decide +kernel
theorem dX3_mean_13 : decode cX3_mean 13 = .ok (.dconst 0, 1) := by decide +kernel
theorem dX3_mean_14 : decode cX3_mean 14 = .ok (.goto 14, 3) := by decide +kernel
theorem dX3_mean_17 : decode cX3_mean 17 = .ok (.aload_n 0, 1) := by decide +kernel
theorem dX3_mean_18 : decode cX3_mean 18 = .ok (.getfield 19, 3) := by decide +kernel
theorem dX3_mean_21 : decode cX3_mean 21 = .ok (.invokevirtual 180, 3) := by decide +kernel
theorem dX3_mean_24 : decode cX3_mean 24 = .ok (.i2d, 1) := by decide +kernel
theorem dX3_mean_25 : decode cX3_mean 25 = .ok (.iload_n 1, 1) := by decide +kernel
theorem dX3_mean_26 : decode cX3_mean 26 = .ok (.i2d, 1) := by decide +kernel
theorem dX3_mean_27 : decode cX3_mean 27 = .ok (.ddiv, 1) := by decide +kernel
theorem dX3_mean_28 : decode cX3_mean 28 = .ok (.dreturn, 1) := by decide +kernel
set_option maxRecDepth 20000 in
theorem ggX3_counted_X1_lines : GoodIn wsX3_counted wsX1_lines := goodIn_r _ [15, 16, 50, 51, 52] (by decide +kernel) (by decide +kernel)
set_option maxRecDepth 20000 in
theorem gX3_counted_X1_lines : GoodIn wsX3_counted (wsV RX3 177 RX1 yX1_lines wsX1_lines) := goodIn_app (goodIn_of _ (by decide +kernel)) ggX3_counted_X1_lines
set_option maxRecDepth 20000 in
theorem ggX3_counted_X1_characters : GoodIn wsX3_counted wsX1_characters := goodIn_r _ [20, 16, 21, 22, 23, 14, 24, 25, 26, 27, 28, 29, 30, 31, 32, 50, 51, 52, 53, 54] (by decide +kernel) (by decide +kernel)
set_option maxRecDepth 20000 in
theorem gX3_counted_X1_characters : GoodIn wsX3_counted (wsV RX3 180 RX1 yX1_characters wsX1_characters) := goodIn_app (goodIn_of _ (by decide +kernel)) ggX3_counted_X1_characters
set_option maxRecDepth 20000 in
theorem ggX3_counted_X2_play : GoodIn wsX3_counted wsX2_play := goodIn_r _ [37, 38, 55, 56, 57] (by decide +kernel) (by decide +kernel)
set_option maxRecDepth 20000 in
theorem gX3_counted_X2_play : GoodIn wsX3_counted (wsV RX3 83 RX2 yX2_play wsX2_play) := goodIn_app (goodIn_of _ (by decide +kernel)) ggX3_counted_X2_play
set_option maxRecDepth 20000 in
theorem ggX3_counted_X0_size : GoodIn wsX3_counted wsX0_size := goodIn_r _ [31, 32, 53, 54] (by decide +kernel) (by decide +kernel)
set_option maxRecDepth 20000 in
theorem gX3_counted_X0_size : GoodIn wsX3_counted (wsV RX3 107 RX0 yX0_size wsX0_size) := goodIn_app (goodIn_of _ (by decide +kernel)) ggX3_counted_X0_size
theorem dX3_counted_0 : decode cX3_counted 0 = .ok (.iload_n 1, 1) := by decide +kernel
theorem dX3_counted_1 : decode cX3_counted 1 = .ok (.tableswitch 133 0 9 #[55, 63, 71, 84, 92, 100, 105, 110, 115, 120], 55) := by decide +kernel
theorem dX3_counted_56 : decode cX3_counted 56 = .ok (.aload_n 0, 1) := by decide +kernel
theorem dX3_counted_57 : decode cX3_counted 57 = .ok (.getfield 19, 3) := by decide +kernel
theorem dX3_counted_60 : decode cX3_counted 60 = .ok (.invokevirtual 177, 3) := by decide +kernel
theorem dX3_counted_63 : decode cX3_counted 63 = .ok (.ireturn, 1) := by decide +kernel
theorem dX3_counted_64 : decode cX3_counted 64 = .ok (.aload_n 0, 1) := by decide +kernel
theorem dX3_counted_65 : decode cX3_counted 65 = .ok (.getfield 19, 3) := by decide +kernel
theorem dX3_counted_68 : decode cX3_counted 68 = .ok (.invokevirtual 180, 3) := by decide +kernel
theorem dX3_counted_71 : decode cX3_counted 71 = .ok (.ireturn, 1) := by decide +kernel
theorem dX3_counted_72 : decode cX3_counted 72 = .ok (.aload_n 0, 1) := by decide +kernel
theorem dX3_counted_73 : decode cX3_counted 73 = .ok (.getfield 61, 3) := by decide +kernel
theorem dX3_counted_76 : decode cX3_counted 76 = .ok (.ifCond .eq 7, 3) := by decide +kernel
theorem dX3_counted_79 : decode cX3_counted 79 = .ok (.iconst 1, 1) := by decide +kernel
theorem dX3_counted_80 : decode cX3_counted 80 = .ok (.goto 4, 3) := by decide +kernel
theorem dX3_counted_83 : decode cX3_counted 83 = .ok (.iconst 0, 1) := by decide +kernel
theorem dX3_counted_84 : decode cX3_counted 84 = .ok (.ireturn, 1) := by decide +kernel
theorem dX3_counted_85 : decode cX3_counted 85 = .ok (.aload_n 0, 1) := by decide +kernel
theorem dX3_counted_86 : decode cX3_counted 86 = .ok (.getfield 10, 3) := by decide +kernel
theorem dX3_counted_89 : decode cX3_counted 89 = .ok (.invokevirtual 83, 3) := by decide +kernel
theorem dX3_counted_92 : decode cX3_counted 92 = .ok (.ireturn, 1) := by decide +kernel
theorem dX3_counted_93 : decode cX3_counted 93 = .ok (.aload_n 0, 1) := by decide +kernel
theorem dX3_counted_94 : decode cX3_counted 94 = .ok (.getfield 28, 3) := by decide +kernel
theorem dX3_counted_97 : decode cX3_counted 97 = .ok (.invokevirtual 107, 3) := by decide +kernel
theorem dX3_counted_100 : decode cX3_counted 100 = .ok (.ireturn, 1) := by decide +kernel
theorem dX3_counted_101 : decode cX3_counted 101 = .ok (.aload_n 0, 1) := by decide +kernel
theorem dX3_counted_102 : decode cX3_counted 102 = .ok (.getfield 135, 3) := by decide +kernel
theorem dX3_counted_105 : decode cX3_counted 105 = .ok (.ireturn, 1) := by decide +kernel
theorem dX3_counted_106 : decode cX3_counted 106 = .ok (.aload_n 0, 1) := by decide +kernel
theorem dX3_counted_107 : decode cX3_counted 107 = .ok (.getfield 158, 3) := by decide +kernel
theorem dX3_counted_110 : decode cX3_counted 110 = .ok (.ireturn, 1) := by decide +kernel
theorem dX3_counted_111 : decode cX3_counted 111 = .ok (.aload_n 0, 1) := by decide +kernel
theorem dX3_counted_112 : decode cX3_counted 112 = .ok (.getfield 198, 3) := by decide +kernel
theorem dX3_counted_115 : decode cX3_counted 115 = .ok (.ireturn, 1) := by decide +kernel
theorem dX3_counted_116 : decode cX3_counted 116 = .ok (.aload_n 0, 1) := by decide +kernel
theorem dX3_counted_117 : decode cX3_counted 117 = .ok (.getfield 201, 3) := by decide +kernel
theorem dX3_counted_120 : decode cX3_counted 120 = .ok (.ireturn, 1) := by decide +kernel
theorem dX3_counted_121 : decode cX3_counted 121 = .ok (.aload_n 0, 1) := by decide +kernel
theorem dX3_counted_122 : decode cX3_counted 122 = .ok (.getfield 90, 3) := by decide +kernel
theorem dX3_counted_125 : decode cX3_counted 125 = .ok (.ifCond .eq 7, 3) := by decide +kernel
theorem dX3_counted_128 : decode cX3_counted 128 = .ok (.iconst 1, 1) := by decide +kernel
theorem dX3_counted_129 : decode cX3_counted 129 = .ok (.goto 4, 3) := by decide +kernel
theorem dX3_counted_132 : decode cX3_counted 132 = .ok (.iconst 0, 1) := by decide +kernel
theorem dX3_counted_133 : decode cX3_counted 133 = .ok (.ireturn, 1) := by decide +kernel
theorem dX3_counted_134 : decode cX3_counted 134 = .ok (.aload_n 0, 1) := by decide +kernel
theorem dX3_counted_135 : decode cX3_counted 135 = .ok (.getfield 204, 3) := by decide +kernel
theorem dX3_counted_138 : decode cX3_counted 138 = .ok (.ireturn, 1) := by decide +kernel
theorem dX3_isCode_0 : decode cX3_isCode 0 = .ok (.iload_n 0, 1) := by decide +kernel
theorem dX3_isCode_1 : decode cX3_isCode 1 = .ok (.ifCond .lt 13, 3) := by decide +kernel
theorem dX3_isCode_4 : decode cX3_isCode 4 = .ok (.iload_n 0, 1) := by decide +kernel
theorem dX3_isCode_5 : decode cX3_isCode 5 = .ok (.bipush 31, 2) := by decide +kernel
theorem dX3_isCode_7 : decode cX3_isCode 7 = .ok (.if_icmp .gt 7, 3) := by decide +kernel
theorem dX3_isCode_10 : decode cX3_isCode 10 = .ok (.iconst 1, 1) := by decide +kernel
theorem dX3_isCode_11 : decode cX3_isCode 11 = .ok (.goto 4, 3) := by decide +kernel
theorem dX3_isCode_14 : decode cX3_isCode 14 = .ok (.iconst 0, 1) := by decide +kernel
theorem dX3_isCode_15 : decode cX3_isCode 15 = .ok (.ireturn, 1) := by decide +kernel
theorem dX3_isCharacter_0 : decode cX3_isCharacter 0 = .ok (.iload_n 0, 1) := by decide +kernel
theorem dX3_isCharacter_1 : decode cX3_isCharacter 1 = .ok (.iconst 1, 1) := by decide +kernel
theorem dX3_isCharacter_2 : decode cX3_isCharacter 2 = .ok (.if_icmp .lt 13, 3) := by decide +kernel
theorem dX3_isCharacter_5 : decode cX3_isCharacter 5 = .ok (.iload_n 0, 1) := by decide +kernel
theorem dX3_isCharacter_6 : decode cX3_isCharacter 6 = .ok (.bipush 54, 2) := by decide +kernel
theorem dX3_isCharacter_8 : decode cX3_isCharacter 8 = .ok (.if_icmp .gt 7, 3) := by decide +kernel
theorem dX3_isCharacter_11 : decode cX3_isCharacter 11 = .ok (.iconst 1, 1) := by decide +kernel
theorem dX3_isCharacter_12 : decode cX3_isCharacter 12 = .ok (.goto 4, 3) := by decide +kernel
theorem dX3_isCharacter_15 : decode cX3_isCharacter 15 = .ok (.iconst 0, 1) := by decide +kernel
theorem dX3_isCharacter_16 : decode cX3_isCharacter 16 = .ok (.ireturn, 1) := by decide +kernel
theorem dX3_isFigure_0 : decode cX3_isFigure 0 = .ok (.iload_n 0, 1) := by decide +kernel
theorem dX3_isFigure_1 : decode cX3_isFigure 1 = .ok (.bipush 26, 2) := by decide +kernel
theorem dX3_isFigure_3 : decode cX3_isFigure 3 = .ok (.if_icmp .le 13, 3) := by decide +kernel
theorem dX3_isFigure_6 : decode cX3_isFigure 6 = .ok (.iload_n 0, 1) := by decide +kernel
theorem dX3_isFigure_7 : decode cX3_isFigure 7 = .ok (.bipush 53, 2) := by decide +kernel
theorem dX3_isFigure_9 : decode cX3_isFigure 9 = .ok (.if_icmp .ge 7, 3) := by decide +kernel
theorem dX3_isFigure_12 : decode cX3_isFigure 12 = .ok (.iconst 1, 1) := by decide +kernel
theorem dX3_isFigure_13 : decode cX3_isFigure 13 = .ok (.goto 4, 3) := by decide +kernel
theorem dX3_isFigure_16 : decode cX3_isFigure 16 = .ok (.iconst 0, 1) := by decide +kernel
theorem dX3_isFigure_17 : decode cX3_isFigure 17 = .ok (.ireturn, 1) := by decide +kernel
theorem dX3_codeOf_0 : decode cX3_codeOf 0 = .ok (.iload_n 0, 1) := by decide +kernel
theorem dX3_codeOf_1 : decode cX3_codeOf 1 = .ok (.ifCond .lt 19, 3) := by decide +kernel
theorem dX3_codeOf_4 : decode cX3_codeOf 4 = .ok (.iload_n 0, 1) := by decide +kernel
theorem dX3_codeOf_5 : decode cX3_codeOf 5 = .ok (.getstatic 207, 3) := by decide +kernel
theorem dX3_codeOf_8 : decode cX3_codeOf 8 = .ok (.arraylength, 1) := by decide +kernel
theorem dX3_codeOf_9 : decode cX3_codeOf 9 = .ok (.if_icmp .ge 11, 3) := by decide +kernel
theorem dX3_codeOf_12 : decode cX3_codeOf 12 = .ok (.getstatic 207, 3) := by decide +kernel
theorem dX3_codeOf_15 : decode cX3_codeOf 15 = .ok (.iload_n 0, 1) := by decide +kernel
theorem dX3_codeOf_16 : decode cX3_codeOf 16 = .ok (.iaload, 1) := by decide +kernel
theorem dX3_codeOf_17 : decode cX3_codeOf 17 = .ok (.goto 4, 3) := by decide +kernel
theorem dX3_codeOf_20 : decode cX3_codeOf 20 = .ok (.iconst 0, 1) := by decide +kernel
theorem dX3_codeOf_21 : decode cX3_codeOf 21 = .ok (.ireturn, 1) := by decide +kernel
set_option maxRecDepth 20000 in
theorem ggX3_characterOf_X3_characterInLetters : GoodIn wsX3_characterOf wsX3_characterInLetters := goodIn_r _ [4, 5] (by decide +kernel) (by decide +kernel)
set_option maxRecDepth 20000 in
theorem gX3_characterOf_X3_characterInLetters : GoodIn wsX3_characterOf (va_wsS RX3 211 yX3_characterInLetters wsX3_characterInLetters) := goodIn_app (goodIn_of _ (by decide +kernel)) ggX3_characterOf_X3_characterInLetters
set_option maxRecDepth 20000 in
theorem ggX3_characterOf_X3_dependsOnShift : GoodIn wsX3_characterOf wsX3_dependsOnShift := goodIn_r _ [8, 1, 2, 3, 4, 5] (by decide +kernel) (by decide +kernel)
set_option maxRecDepth 20000 in
theorem gX3_characterOf_X3_dependsOnShift : GoodIn wsX3_characterOf (va_wsS RX3 113 yX3_dependsOnShift wsX3_dependsOnShift) := goodIn_app (goodIn_of _ (by decide +kernel)) ggX3_characterOf_X3_dependsOnShift
theorem dX3_characterOf_0 : decode cX3_characterOf 0 = .ok (.iload_n 0, 1) := by decide +kernel
theorem dX3_characterOf_1 : decode cX3_characterOf 1 = .ok (.invokestatic 211, 3) := by decide +kernel
theorem dX3_characterOf_4 : decode cX3_characterOf 4 = .ok (.istore_n 2, 1) := by decide +kernel
theorem dX3_characterOf_5 : decode cX3_characterOf 5 = .ok (.iload_n 1, 1) := by decide +kernel
theorem dX3_characterOf_6 : decode cX3_characterOf 6 = .ok (.ifCond .eq 17, 3) := by decide +kernel
theorem dX3_characterOf_9 : decode cX3_characterOf 9 = .ok (.iload_n 0, 1) := by decide +kernel
theorem dX3_characterOf_10 : decode cX3_characterOf 10 = .ok (.invokestatic 113, 3) := by decide +kernel
theorem dX3_characterOf_13 : decode cX3_characterOf 13 = .ok (.ifCond .eq 10, 3) := by decide +kernel
theorem dX3_characterOf_16 : decode cX3_characterOf 16 = .ok (.iload_n 2, 1) := by decide +kernel
theorem dX3_characterOf_17 : decode cX3_characterOf 17 = .ok (.bipush 26, 2) := by decide +kernel
theorem dX3_characterOf_19 : decode cX3_characterOf 19 = .ok (.iadd, 1) := by decide +kernel
theorem dX3_characterOf_20 : decode cX3_characterOf 20 = .ok (.goto 4, 3) := by decide +kernel
theorem dX3_characterOf_23 : decode cX3_characterOf 23 = .ok (.iload_n 2, 1) := by decide +kernel
theorem dX3_characterOf_24 : decode cX3_characterOf 24 = .ok (.ireturn, 1) := by decide +kernel
set_option maxRecDepth 20000 in
theorem ggX3_dependsOnShift_X3_characterInLetters : GoodIn wsX3_dependsOnShift wsX3_characterInLetters := goodIn_r _ [4, 5] (by decide +kernel) (by decide +kernel)
set_option maxRecDepth 20000 in
theorem gX3_dependsOnShift_X3_characterInLetters : GoodIn wsX3_dependsOnShift (va_wsS RX3 211 yX3_characterInLetters wsX3_characterInLetters) := goodIn_app (goodIn_of _ (by decide +kernel)) ggX3_dependsOnShift_X3_characterInLetters
theorem dX3_dependsOnShift_0 : decode cX3_dependsOnShift 0 = .ok (.iload_n 0, 1) := by decide +kernel
theorem dX3_dependsOnShift_1 : decode cX3_dependsOnShift 1 = .ok (.invokestatic 211, 3) := by decide +kernel
theorem dX3_dependsOnShift_4 : decode cX3_dependsOnShift 4 = .ok (.istore_n 1, 1) := by decide +kernel
theorem dX3_dependsOnShift_5 : decode cX3_dependsOnShift 5 = .ok (.iload_n 1, 1) := by decide +kernel
theorem dX3_dependsOnShift_6 : decode cX3_dependsOnShift 6 = .ok (.ifCond .eq 13, 3) := by decide +kernel
theorem dX3_dependsOnShift_9 : decode cX3_dependsOnShift 9 = .ok (.iload_n 1, 1) := by decide +kernel
theorem dX3_dependsOnShift_10 : decode cX3_dependsOnShift 10 = .ok (.bipush 26, 2) := by decide +kernel
theorem dX3_dependsOnShift_12 : decode cX3_dependsOnShift 12 = .ok (.if_icmp .gt 7, 3) := by decide +kernel
theorem dX3_dependsOnShift_15 : decode cX3_dependsOnShift 15 = .ok (.iconst 1, 1) := by decide +kernel
theorem dX3_dependsOnShift_16 : decode cX3_dependsOnShift 16 = .ok (.goto 4, 3) := by decide +kernel
theorem dX3_dependsOnShift_19 : decode cX3_dependsOnShift 19 = .ok (.iconst 0, 1) := by decide +kernel
theorem dX3_dependsOnShift_20 : decode cX3_dependsOnShift 20 = .ok (.ireturn, 1) := by decide +kernel
theorem dX3_characterInLetters_0 : decode cX3_characterInLetters 0 = .ok (.iload_n 0, 1) := by decide +kernel
theorem dX3_characterInLetters_1 : decode cX3_characterInLetters 1 = .ok (.ifCond .lt 19, 3) := by decide +kernel
theorem dX3_characterInLetters_4 : decode cX3_characterInLetters 4 = .ok (.iload_n 0, 1) := by decide +kernel
theorem dX3_characterInLetters_5 : decode cX3_characterInLetters 5 = .ok (.getstatic 214, 3) := by decide +kernel
theorem dX3_characterInLetters_8 : decode cX3_characterInLetters 8 = .ok (.arraylength, 1) := by decide +kernel
theorem dX3_characterInLetters_9 : decode cX3_characterInLetters 9 = .ok (.if_icmp .ge 11, 3) := by decide +kernel
theorem dX3_characterInLetters_12 : decode cX3_characterInLetters 12 = .ok (.getstatic 214, 3) := by decide +kernel
theorem dX3_characterInLetters_15 : decode cX3_characterInLetters 15 = .ok (.iload_n 0, 1) := by decide +kernel
theorem dX3_characterInLetters_16 : decode cX3_characterInLetters 16 = .ok (.iaload, 1) := by decide +kernel
theorem dX3_characterInLetters_17 : decode cX3_characterInLetters 17 = .ok (.goto 4, 3) := by decide +kernel
theorem dX3_characterInLetters_20 : decode cX3_characterInLetters 20 = .ok (.iconst 0, 1) := by decide +kernel
theorem dX3_characterInLetters_21 : decode cX3_characterInLetters 21 = .ok (.ireturn, 1) := by decide +kernel
theorem dX3_isShift_0 : decode cX3_isShift 0 = .ok (.iload_n 0, 1) := by decide +kernel
theorem dX3_isShift_1 : decode cX3_isShift 1 = .ok (.bipush 31, 2) := by decide +kernel
theorem dX3_isShift_3 : decode cX3_isShift 3 = .ok (.if_icmp .eq 9, 3) := by decide +kernel
theorem dX3_isShift_6 : decode cX3_isShift 6 = .ok (.iload_n 0, 1) := by decide +kernel
theorem dX3_isShift_7 : decode cX3_isShift 7 = .ok (.bipush 27, 2) := by decide +kernel
theorem dX3_isShift_9 : decode cX3_isShift 9 = .ok (.if_icmp .ne 7, 3) := by decide +kernel
theorem dX3_isShift_12 : decode cX3_isShift 12 = .ok (.iconst 1, 1) := by decide +kernel
theorem dX3_isShift_13 : decode cX3_isShift 13 = .ok (.goto 4, 3) := by decide +kernel
theorem dX3_isShift_16 : decode cX3_isShift 16 = .ok (.iconst 0, 1) := by decide +kernel
theorem dX3_isShift_17 : decode cX3_isShift 17 = .ok (.ireturn, 1) := by decide +kernel
set_option maxRecDepth 20000 in
theorem ggX3_figuresBehind_X3_shiftsToLetters : GoodIn wsX3_figuresBehind wsX3_shiftsToLetters := goodIn_r _ [5, 6, 7, 8, 9, 10, 11, 12, 13, 14, 15, 16] (by decide +kernel) (by decide +kernel)
set_option maxRecDepth 20000 in
theorem gX3_figuresBehind_X3_shiftsToLetters : GoodIn wsX3_figuresBehind (wsV RX3 217 RX3 yX3_shiftsToLetters wsX3_shiftsToLetters) := goodIn_app (goodIn_of _ (by decide +kernel)) ggX3_figuresBehind_X3_shiftsToLetters
theorem dX3_figuresBehind_0 : decode cX3_figuresBehind 0 = .ok (.iload_n 1, 1) := by decide +kernel
theorem dX3_figuresBehind_1 : decode cX3_figuresBehind 1 = .ok (.bipush 27, 2) := by decide +kernel
theorem dX3_figuresBehind_3 : decode cX3_figuresBehind 3 = .ok (.if_icmp .ne 5, 3) := by decide +kernel
theorem dX3_figuresBehind_6 : decode cX3_figuresBehind 6 = .ok (.iconst 1, 1) := by decide +kernel
theorem dX3_figuresBehind_7 : decode cX3_figuresBehind 7 = .ok (.ireturn, 1) := by decide +kernel
theorem dX3_figuresBehind_8 : decode cX3_figuresBehind 8 = .ok (.iload_n 2, 1) := by decide +kernel
theorem dX3_figuresBehind_9 : decode cX3_figuresBehind 9 = .ok (.ifCond .eq 15, 3) := by decide +kernel
theorem dX3_figuresBehind_12 : decode cX3_figuresBehind 12 = .ok (.aload_n 0, 1) := by decide +kernel
theorem dX3_figuresBehind_13 : decode cX3_figuresBehind 13 = .ok (.iload_n 1, 1) := by decide +kernel
theorem dX3_figuresBehind_14 : decode cX3_figuresBehind 14 = .ok (.invokevirtual 217, 3) := by decide +kernel
theorem dX3_figuresBehind_17 : decode cX3_figuresBehind 17 = .ok (.ifCond .ne 7, 3) := by decide +kernel
theorem dX3_figuresBehind_20 : decode cX3_figuresBehind 20 = .ok (.iconst 1, 1) := by decide +kernel
theorem dX3_figuresBehind_21 : decode cX3_figuresBehind 21 = .ok (.goto 4, 3) := by decide +kernel
theorem dX3_figuresBehind_24 : decode cX3_figuresBehind 24 = .ok (.iconst 0, 1) := by decide +kernel
theorem dX3_figuresBehind_25 : decode cX3_figuresBehind 25 = .ok (.ireturn, 1) := by decide +kernel
theorem dX3_shiftsToLetters_0 : decode cX3_shiftsToLetters 0 = .ok (.iload_n 1, 1) := by decide +kernel
theorem dX3_shiftsToLetters_1 : decode cX3_shiftsToLetters 1 = .ok (.bipush 31, 2) := by decide +kernel
theorem dX3_shiftsToLetters_3 : decode cX3_shiftsToLetters 3 = .ok (.if_icmp .eq 20, 3) := by decide +kernel
theorem dX3_shiftsToLetters_6 : decode cX3_shiftsToLetters 6 = .ok (.iload_n 1, 1) := by decide +kernel
theorem dX3_shiftsToLetters_7 : decode cX3_shiftsToLetters 7 = .ok (.iconst 2, 1) := by decide +kernel
theorem dX3_shiftsToLetters_8 : decode cX3_shiftsToLetters 8 = .ok (.if_icmp .eq 15, 3) := by decide +kernel
theorem dX3_shiftsToLetters_11 : decode cX3_shiftsToLetters 11 = .ok (.aload_n 0, 1) := by decide +kernel
theorem dX3_shiftsToLetters_12 : decode cX3_shiftsToLetters 12 = .ok (.getfield 90, 3) := by decide +kernel
theorem dX3_shiftsToLetters_15 : decode cX3_shiftsToLetters 15 = .ok (.ifCond .eq 12, 3) := by decide +kernel
theorem dX3_shiftsToLetters_18 : decode cX3_shiftsToLetters 18 = .ok (.iload_n 1, 1) := by decide +kernel
theorem dX3_shiftsToLetters_19 : decode cX3_shiftsToLetters 19 = .ok (.iconst 4, 1) := by decide +kernel
theorem dX3_shiftsToLetters_20 : decode cX3_shiftsToLetters 20 = .ok (.if_icmp .ne 7, 3) := by decide +kernel
theorem dX3_shiftsToLetters_23 : decode cX3_shiftsToLetters 23 = .ok (.iconst 1, 1) := by decide +kernel
theorem dX3_shiftsToLetters_24 : decode cX3_shiftsToLetters 24 = .ok (.goto 4, 3) := by decide +kernel
theorem dX3_shiftsToLetters_27 : decode cX3_shiftsToLetters 27 = .ok (.iconst 0, 1) := by decide +kernel
theorem dX3_shiftsToLetters_28 : decode cX3_shiftsToLetters 28 = .ok (.ireturn, 1) := by decide +kernel
set_option maxRecDepth 20000 in
theorem ggX3_figuresAhead_X0_size : GoodIn wsX3_figuresAhead wsX0_size := goodIn_r _ [6, 7, 37, 38] (by decide +kernel) (by decide +kernel)
set_option maxRecDepth 20000 in
theorem gX3_figuresAhead_X0_size : GoodIn wsX3_figuresAhead (wsV RX3 107 RX0 yX0_size wsX0_size) := goodIn_app (goodIn_of _ (by decide +kernel)) ggX3_figuresAhead_X0_size
set_option maxRecDepth 20000 in
theorem ggX3_figuresAhead_X0_at : GoodIn wsX3_figuresAhead wsX0_at := goodIn_r _ [11, 12, 13, 14, 15, 5, 16, 7, 37, 38] (by decide +kernel) (by decide +kernel)
set_option maxRecDepth 20000 in
theorem gX3_figuresAhead_X0_at : GoodIn wsX3_figuresAhead (wsV RX3 127 RX0 yX0_at wsX0_at) := goodIn_app (goodIn_of _ (by decide +kernel)) ggX3_figuresAhead_X0_at
set_option maxRecDepth 20000 in
theorem ggX3_figuresAhead_X3_figuresBehind : GoodIn wsX3_figuresAhead wsX3_figuresBehind := goodIn_r _ [21, 22, 23, 24, 20, 25, 26, 27, 28, 29, 30, 31, 32, 33, 34, 35, 36] (by decide +kernel) (by decide +kernel)
set_option maxRecDepth 20000 in
theorem gX3_figuresAhead_X3_figuresBehind : GoodIn wsX3_figuresAhead (wsV RX3 164 RX3 yX3_figuresBehind wsX3_figuresBehind) := goodIn_app (goodIn_of _ (by decide +kernel)) ggX3_figuresAhead_X3_figuresBehind
theorem dX3_figuresAhead_0 : decode cX3_figuresAhead 0 = .ok (.iconst 0, 1) := by decide +kernel
theorem dX3_figuresAhead_1 : decode cX3_figuresAhead 1 = .ok (.istore_n 2, 1) := by decide +kernel
theorem dX3_figuresAhead_2 : decode cX3_figuresAhead 2 = .ok (.iconst 0, 1) := by decide +kernel
theorem dX3_figuresAhead_3 : decode cX3_figuresAhead 3 = .ok (.istore_n 3, 1) := by decide +kernel
theorem dX3_figuresAhead_4 : decode cX3_figuresAhead 4 = .ok (.iload_n 3, 1) := by decide +kernel
theorem dX3_figuresAhead_5 : decode cX3_figuresAhead 5 = .ok (.iload_n 1, 1) := by decide +kernel
theorem dX3_figuresAhead_6 : decode cX3_figuresAhead 6 = .ok (.if_icmp .ge 34, 3) := by decide +kernel
theorem dX3_figuresAhead_9 : decode cX3_figuresAhead 9 = .ok (.iload_n 3, 1) := by decide +kernel
theorem dX3_figuresAhead_10 : decode cX3_figuresAhead 10 = .ok (.aload_n 0, 1) := by decide +kernel
theorem dX3_figuresAhead_11 : decode cX3_figuresAhead 11 = .ok (.getfield 28, 3) := by decide +kernel
theorem dX3_figuresAhead_14 : decode cX3_figuresAhead 14 = .ok (.invokevirtual 107, 3) := by decide +kernel
theorem dX3_figuresAhead_17 : decode cX3_figuresAhead 17 = .ok (.if_icmp .ge 23, 3) := by decide +kernel
theorem dX3_figuresAhead_20 : decode cX3_figuresAhead 20 = .ok (.aload_n 0, 1) := by decide +kernel
theorem dX3_figuresAhead_21 : decode cX3_figuresAhead 21 = .ok (.aload_n 0, 1) := by decide +kernel
theorem dX3_figuresAhead_22 : decode cX3_figuresAhead 22 = .ok (.getfield 28, 3) := by decide +kernel
theorem dX3_figuresAhead_25 : decode cX3_figuresAhead 25 = .ok (.iload_n 3, 1) := by decide +kernel
theorem dX3_figuresAhead_26 : decode cX3_figuresAhead 26 = .ok (.invokevirtual 127, 3) := by decide +kernel
theorem dX3_figuresAhead_29 : decode cX3_figuresAhead 29 = .ok (.iload_n 2, 1) := by decide +kernel
theorem dX3_figuresAhead_30 : decode cX3_figuresAhead 30 = .ok (.invokevirtual 164, 3) := by decide +kernel
theorem dX3_figuresAhead_33 : decode cX3_figuresAhead 33 = .ok (.istore_n 2, 1) := by decide +kernel
theorem dX3_figuresAhead_34 : decode cX3_figuresAhead 34 = .ok (.iinc 3 1, 3) := by decide +kernel
theorem dX3_figuresAhead_37 : decode cX3_figuresAhead 37 = .ok (.goto (-33), 3) := by decide +kernel
theorem dX3_figuresAhead_40 : decode cX3_figuresAhead 40 = .ok (.iload_n 2, 1) := by decide +kernel
theorem dX3_figuresAhead_41 : decode cX3_figuresAhead 41 = .ok (.ireturn, 1) := by decide +kernel
set_option maxRecDepth 20000 in
theorem ggX3_figuresAtEnd_X0_size : GoodIn wsX3_figuresAtEnd wsX0_size := goodIn_r _ [6, 7, 41, 42] (by decide +kernel) (by decide +kernel)
set_option maxRecDepth 20000 in
theorem gX3_figuresAtEnd_X0_size : GoodIn wsX3_figuresAtEnd (wsV RX3 107 RX0 yX0_size wsX0_size) := goodIn_app (goodIn_of _ (by decide +kernel)) ggX3_figuresAtEnd_X0_size
set_option maxRecDepth 20000 in
theorem ggX3_figuresAtEnd_X3_figuresAhead : GoodIn wsX3_figuresAtEnd wsX3_figuresAhead := goodIn_r _ [12, 1, 2, 3, 4, 5, 6, 7, 13, 14, 15, 16, 17, 18, 19, 20, 21, 22, 23, 24, 11, 25, 26, 27, 28, 29, 30, 31, 32, 33, 34, 35, 36, 37, 38, 39, 40, 41, 42] (by decide +kernel) (by decide +kernel)
set_option maxRecDepth 20000 in
theorem gX3_figuresAtEnd_X3_figuresAhead : GoodIn wsX3_figuresAtEnd (wsV RX3 174 RX3 yX3_figuresAhead wsX3_figuresAhead) := goodIn_app (goodIn_of _ (by decide +kernel)) ggX3_figuresAtEnd_X3_figuresAhead
theorem dX3_figuresAtEnd_0 : decode cX3_figuresAtEnd 0 = .ok (.aload_n 0, 1) := by decide +kernel
theorem dX3_figuresAtEnd_1 : decode cX3_figuresAtEnd 1 = .ok (.aload_n 0, 1) := by decide +kernel
theorem dX3_figuresAtEnd_2 : decode cX3_figuresAtEnd 2 = .ok (.getfield 28, 3) := by decide +kernel
theorem dX3_figuresAtEnd_5 : decode cX3_figuresAtEnd 5 = .ok (.invokevirtual 107, 3) := by decide +kernel
theorem dX3_figuresAtEnd_8 : decode cX3_figuresAtEnd 8 = .ok (.invokevirtual 174, 3) := by decide +kernel
theorem dX3_figuresAtEnd_11 : decode cX3_figuresAtEnd 11 = .ok (.ireturn, 1) := by decide +kernel
set_option maxRecDepth 20000 in
theorem ggX3_servesBehind_X0_size : GoodIn wsX3_servesBehind wsX0_size := goodIn_r _ [6, 7, 40, 41] (by decide +kernel) (by decide +kernel)
set_option maxRecDepth 20000 in
theorem gX3_servesBehind_X0_size : GoodIn wsX3_servesBehind (wsV RX3 107 RX0 yX0_size wsX0_size) := goodIn_app (goodIn_of _ (by decide +kernel)) ggX3_servesBehind_X0_size
set_option maxRecDepth 20000 in
theorem ggX3_servesBehind_X0_at : GoodIn wsX3_servesBehind wsX0_at := goodIn_r _ [11, 12, 13, 14, 15, 5, 16, 7, 40, 41] (by decide +kernel) (by decide +kernel)
set_option maxRecDepth 20000 in
theorem gX3_servesBehind_X0_at : GoodIn wsX3_servesBehind (wsV RX3 127 RX0 yX0_at wsX0_at) := goodIn_app (goodIn_of _ (by decide +kernel)) ggX3_servesBehind_X0_at
set_option maxRecDepth 20000 in
theorem ggX3_servesBehind_X3_dependsOnShift : GoodIn wsX3_servesBehind wsX3_dependsOnShift := goodIn_r _ [20, 21, 22, 19, 23, 24] (by decide +kernel) (by decide +kernel)
set_option maxRecDepth 20000 in
theorem gX3_servesBehind_X3_dependsOnShift : GoodIn wsX3_servesBehind (va_wsS RX3 113 yX3_dependsOnShift wsX3_dependsOnShift) := goodIn_app (goodIn_of _ (by decide +kernel)) ggX3_servesBehind_X3_dependsOnShift
set_option maxRecDepth 20000 in
theorem ggX3_servesBehind_X3_shiftsToLetters : GoodIn wsX3_servesBehind wsX3_shiftsToLetters := goodIn_r _ [28, 29, 30, 31, 32, 33, 34, 35, 36, 37, 38, 39] (by decide +kernel) (by decide +kernel)
set_option maxRecDepth 20000 in
theorem gX3_servesBehind_X3_shiftsToLetters : GoodIn wsX3_servesBehind (wsV RX3 217 RX3 yX3_shiftsToLetters wsX3_shiftsToLetters) := goodIn_app (goodIn_of _ (by decide +kernel)) ggX3_servesBehind_X3_shiftsToLetters
theorem dX3_servesBehind_0 : decode cX3_servesBehind 0 = .ok (.iload_n 1, 1) := by decide +kernel
theorem dX3_servesBehind_1 : decode cX3_servesBehind 1 = .ok (.iconst 1, 1) := by decide +kernel
theorem dX3_servesBehind_2 : decode cX3_servesBehind 2 = .ok (.iadd, 1) := by decide +kernel
theorem dX3_servesBehind_3 : decode cX3_servesBehind 3 = .ok (.istore_n 2, 1) := by decide +kernel
theorem dX3_servesBehind_4 : decode cX3_servesBehind 4 = .ok (.iload_n 2, 1) := by decide +kernel
theorem dX3_servesBehind_5 : decode cX3_servesBehind 5 = .ok (.aload_n 0, 1) := by decide +kernel
theorem dX3_servesBehind_6 : decode cX3_servesBehind 6 = .ok (.getfield 28, 3) := by decide +kernel
theorem dX3_servesBehind_9 : decode cX3_servesBehind 9 = .ok (.invokevirtual 107, 3) := by decide +kernel
theorem dX3_servesBehind_12 : decode cX3_servesBehind 12 = .ok (.if_icmp .ge 43, 3) := by decide +kernel
theorem dX3_servesBehind_15 : decode cX3_servesBehind 15 = .ok (.aload_n 0, 1) := by decide +kernel
theorem dX3_servesBehind_16 : decode cX3_servesBehind 16 = .ok (.getfield 28, 3) := by decide +kernel
theorem dX3_servesBehind_19 : decode cX3_servesBehind 19 = .ok (.iload_n 2, 1) := by decide +kernel
theorem dX3_servesBehind_20 : decode cX3_servesBehind 20 = .ok (.invokevirtual 127, 3) := by decide +kernel
theorem dX3_servesBehind_23 : decode cX3_servesBehind 23 = .ok (.istore_n 3, 1) := by decide +kernel
theorem dX3_servesBehind_24 : decode cX3_servesBehind 24 = .ok (.iload_n 3, 1) := by decide +kernel
theorem dX3_servesBehind_25 : decode cX3_servesBehind 25 = .ok (.invokestatic 113, 3) := by decide +kernel
theorem dX3_servesBehind_28 : decode cX3_servesBehind 28 = .ok (.ifCond .eq 5, 3) := by decide +kernel
theorem dX3_servesBehind_31 : decode cX3_servesBehind 31 = .ok (.iconst 1, 1) := by decide +kernel
theorem dX3_servesBehind_32 : decode cX3_servesBehind 32 = .ok (.ireturn, 1) := by decide +kernel
theorem dX3_servesBehind_33 : decode cX3_servesBehind 33 = .ok (.iload_n 3, 1) := by decide +kernel
theorem dX3_servesBehind_34 : decode cX3_servesBehind 34 = .ok (.bipush 27, 2) := by decide +kernel
theorem dX3_servesBehind_36 : decode cX3_servesBehind 36 = .ok (.if_icmp .eq 11, 3) := by decide +kernel
theorem dX3_servesBehind_39 : decode cX3_servesBehind 39 = .ok (.aload_n 0, 1) := by decide +kernel
theorem dX3_servesBehind_40 : decode cX3_servesBehind 40 = .ok (.iload_n 3, 1) := by decide +kernel
theorem dX3_servesBehind_41 : decode cX3_servesBehind 41 = .ok (.invokevirtual 217, 3) := by decide +kernel
theorem dX3_servesBehind_44 : decode cX3_servesBehind 44 = .ok (.ifCond .eq 5, 3) := by decide +kernel
theorem dX3_servesBehind_47 : decode cX3_servesBehind 47 = .ok (.iconst 0, 1) := by decide +kernel
theorem dX3_servesBehind_48 : decode cX3_servesBehind 48 = .ok (.ireturn, 1) := by decide +kernel
theorem dX3_servesBehind_49 : decode cX3_servesBehind 49 = .ok (.iinc 2 1, 3) := by decide +kernel
theorem dX3_servesBehind_52 : decode cX3_servesBehind 52 = .ok (.goto (-48), 3) := by decide +kernel
theorem dX3_servesBehind_55 : decode cX3_servesBehind 55 = .ok (.iconst 0, 1) := by decide +kernel
theorem dX3_servesBehind_56 : decode cX3_servesBehind 56 = .ok (.ireturn, 1) := by decide +kernel
set_option maxRecDepth 20000 in
theorem ggX3_takeIn_X2_readAs : GoodIn wsX3_takeIn wsX2_readAs := goodIn_r _ [8, 9, 10, 11, 12, 13, 14, 15, 16, 17, 18, 19, 20, 21, 22, 85, 86, 87, 88, 89] (by decide +kernel) (by decide +kernel)
set_option maxRecDepth 20000 in
theorem gX3_takeIn_X2_readAs : GoodIn wsX3_takeIn (wsV RX3 161 RX2 yX2_readAs wsX2_readAs) := goodIn_app (goodIn_of _ (by decide +kernel)) ggX3_takeIn_X2_readAs
set_option maxRecDepth 20000 in
theorem ggX3_takeIn_X3_obey : GoodIn wsX3_takeIn wsX3_obey := goodIn_r _ [27, 28, 29, 30, 31, 32, 33, 26, 34, 35, 36, 37, 38, 39, 40, 41, 42, 43, 44, 45, 46, 47, 48, 49, 50, 51, 52, 53, 54, 55, 56, 15, 57, 22, 58, 59, 60, 61, 62, 63, 64, 65, 17, 66, 67, 68, 69, 70, 71, 72, 73, 74, 75, 76, 77, 78, 79, 80, 81, 82, 83, 84, 90, 91, 92, 88, 89] (by decide +kernel) (by decide +kernel)
set_option maxRecDepth 20000 in
theorem gX3_takeIn_X3_obey : GoodIn wsX3_takeIn (wsV RX3 220 RX3 yX3_obey wsX3_obey) := goodIn_app (goodIn_of _ (by decide +kernel)) ggX3_takeIn_X3_obey
theorem dX3_takeIn_0 : decode cX3_takeIn 0 = .ok (.aload_n 0, 1) := by decide +kernel
theorem dX3_takeIn_1 : decode cX3_takeIn 1 = .ok (.getfield 10, 3) := by decide +kernel
theorem dX3_takeIn_4 : decode cX3_takeIn 4 = .ok (.iload_n 1, 1) := by decide +kernel
theorem dX3_takeIn_5 : decode cX3_takeIn 5 = .ok (.aload_n 0, 1) := by decide +kernel
theorem dX3_takeIn_6 : decode cX3_takeIn 6 = .ok (.getfield 158, 3) := by decide +kernel
theorem dX3_takeIn_9 : decode cX3_takeIn 9 = .ok (.invokevirtual 161, 3) := by decide +kernel
theorem dX3_takeIn_12 : decode cX3_takeIn 12 = .ok (.istore_n 2, 1) := by decide +kernel
theorem dX3_takeIn_13 : decode cX3_takeIn 13 = .ok (.aload_n 0, 1) := by decide +kernel
theorem dX3_takeIn_14 : decode cX3_takeIn 14 = .ok (.dup, 1) := by decide +kernel
theorem dX3_takeIn_15 : decode cX3_takeIn 15 = .ok (.getfield 158, 3) := by decide +kernel
theorem dX3_takeIn_18 : decode cX3_takeIn 18 = .ok (.iconst 1, 1) := by decide +kernel
theorem dX3_takeIn_19 : decode cX3_takeIn 19 = .ok (.iadd, 1) := by decide +kernel
theorem dX3_takeIn_20 : decode cX3_takeIn 20 = .ok (.putfield 158, 3) := by decide +kernel
theorem dX3_takeIn_23 : decode cX3_takeIn 23 = .ok (.iload_n 2, 1) := by decide +kernel
theorem dX3_takeIn_24 : decode cX3_takeIn 24 = .ok (.iload_n 1, 1) := by decide +kernel
theorem dX3_takeIn_25 : decode cX3_takeIn 25 = .ok (.if_icmp .eq 13, 3) := by decide +kernel
theorem dX3_takeIn_28 : decode cX3_takeIn 28 = .ok (.aload_n 0, 1) := by decide +kernel
theorem dX3_takeIn_29 : decode cX3_takeIn 29 = .ok (.dup, 1) := by decide +kernel
theorem dX3_takeIn_30 : decode cX3_takeIn 30 = .ok (.getfield 198, 3) := by decide +kernel
theorem dX3_takeIn_33 : decode cX3_takeIn 33 = .ok (.iconst 1, 1) := by decide +kernel
theorem dX3_takeIn_34 : decode cX3_takeIn 34 = .ok (.iadd, 1) := by decide +kernel
theorem dX3_takeIn_35 : decode cX3_takeIn 35 = .ok (.putfield 198, 3) := by decide +kernel
theorem dX3_takeIn_38 : decode cX3_takeIn 38 = .ok (.aload_n 0, 1) := by decide +kernel
theorem dX3_takeIn_39 : decode cX3_takeIn 39 = .ok (.iload_n 2, 1) := by decide +kernel
theorem dX3_takeIn_40 : decode cX3_takeIn 40 = .ok (.invokevirtual 220, 3) := by decide +kernel
theorem dX3_takeIn_43 : decode cX3_takeIn 43 = .ok (.iload_n 2, 1) := by decide +kernel
theorem dX3_takeIn_44 : decode cX3_takeIn 44 = .ok (.ireturn, 1) := by decide +kernel
set_option maxRecDepth 20000 in
theorem ggX3_obey_X3_characterOf : GoodIn wsX3_obey wsX3_characterOf := goodIn_r _ [8, 9, 10, 7, 11, 12, 13, 14, 15] (by decide +kernel) (by decide +kernel)
set_option maxRecDepth 20000 in
theorem gX3_obey_X3_characterOf : GoodIn wsX3_obey (va_wsS RX3 52 yX3_characterOf wsX3_characterOf) := goodIn_app (goodIn_of _ (by decide +kernel)) ggX3_obey_X3_characterOf
set_option maxRecDepth 20000 in
theorem ggX3_obey_X1_beginLine : GoodIn wsX3_obey wsX1_beginLine := goodIn_r _ [20, 21, 22, 23, 24, 25, 19, 26, 27, 28, 29, 30, 31, 32, 33, 62, 63, 64, 65, 66] (by decide +kernel) (by decide +kernel)
set_option maxRecDepth 20000 in
theorem gX3_obey_X1_beginLine : GoodIn wsX3_obey (wsV RX3 223 RX1 yX1_beginLine wsX1_beginLine) := goodIn_app (goodIn_of _ (by decide +kernel)) ggX3_obey_X1_beginLine
set_option maxRecDepth 20000 in
theorem ggX3_obey_X1_add : GoodIn wsX3_obey wsX1_add := goodIn_r _ [37, 21, 23, 24, 25, 19, 26, 22, 27, 38, 39, 40, 31, 41, 33, 42, 62, 63, 64, 65, 66] (by decide +kernel) (by decide +kernel)
set_option maxRecDepth 20000 in
theorem gX3_obey_X1_add : GoodIn wsX3_obey (wsV RX3 226 RX1 yX1_add wsX1_add) := goodIn_app (goodIn_of _ (by decide +kernel)) ggX3_obey_X1_add
set_option maxRecDepth 20000 in
theorem ggX3_obey_X3_figuresBehind : GoodIn wsX3_obey wsX3_figuresBehind := goodIn_r _ [46, 47, 48, 49, 7, 50, 51, 52, 53, 54, 55, 56, 57, 58, 59, 60, 61] (by decide +kernel) (by decide +kernel)
set_option maxRecDepth 20000 in
theorem gX3_obey_X3_figuresBehind : GoodIn wsX3_obey (wsV RX3 164 RX3 yX3_figuresBehind wsX3_figuresBehind) := goodIn_app (goodIn_of _ (by decide +kernel)) ggX3_obey_X3_figuresBehind
theorem dX3_obey_0 : decode cX3_obey 0 = .ok (.iload_n 1, 1) := by decide +kernel
theorem dX3_obey_1 : decode cX3_obey 1 = .ok (.aload_n 0, 1) := by decide +kernel
theorem dX3_obey_2 : decode cX3_obey 2 = .ok (.getfield 61, 3) := by decide +kernel
theorem dX3_obey_5 : decode cX3_obey 5 = .ok (.invokestatic 52, 3) := by decide +kernel
theorem dX3_obey_8 : decode cX3_obey 8 = .ok (.istore_n 2, 1) := by decide +kernel
theorem dX3_obey_9 : decode cX3_obey 9 = .ok (.iload_n 2, 1) := by decide +kernel
theorem dX3_obey_10 : decode cX3_obey 10 = .ok (.bipush 54, 2) := by decide +kernel
theorem dX3_obey_12 : decode cX3_obey 12 = .ok (.if_icmp .ne 13, 3) := by decide +kernel
theorem dX3_obey_15 : decode cX3_obey 15 = .ok (.aload_n 0, 1) := by decide +kernel
theorem dX3_obey_16 : decode cX3_obey 16 = .ok (.getfield 19, 3) := by decide +kernel
theorem dX3_obey_19 : decode cX3_obey 19 = .ok (.invokevirtual 223, 3) := by decide +kernel
theorem dX3_obey_22 : decode cX3_obey 22 = .ok (.goto 28, 3) := by decide +kernel
theorem dX3_obey_25 : decode cX3_obey 25 = .ok (.iload_n 2, 1) := by decide +kernel
theorem dX3_obey_26 : decode cX3_obey 26 = .ok (.ifCond .eq 24, 3) := by decide +kernel
theorem dX3_obey_29 : decode cX3_obey 29 = .ok (.aload_n 0, 1) := by decide +kernel
theorem dX3_obey_30 : decode cX3_obey 30 = .ok (.getfield 19, 3) := by decide +kernel
theorem dX3_obey_33 : decode cX3_obey 33 = .ok (.iload_n 2, 1) := by decide +kernel
theorem dX3_obey_34 : decode cX3_obey 34 = .ok (.invokevirtual 226, 3) := by decide +kernel
theorem dX3_obey_37 : decode cX3_obey 37 = .ok (.ifCond .ne 13, 3) := by decide +kernel
theorem dX3_obey_40 : decode cX3_obey 40 = .ok (.aload_n 0, 1) := by decide +kernel
theorem dX3_obey_41 : decode cX3_obey 41 = .ok (.dup, 1) := by decide +kernel
theorem dX3_obey_42 : decode cX3_obey 42 = .ok (.getfield 201, 3) := by decide +kernel
theorem dX3_obey_45 : decode cX3_obey 45 = .ok (.iconst 1, 1) := by decide +kernel
theorem dX3_obey_46 : decode cX3_obey 46 = .ok (.iadd, 1) := by decide +kernel
theorem dX3_obey_47 : decode cX3_obey 47 = .ok (.putfield 201, 3) := by decide +kernel
theorem dX3_obey_50 : decode cX3_obey 50 = .ok (.iload_n 1, 1) := by decide +kernel
theorem dX3_obey_51 : decode cX3_obey 51 = .ok (.bipush 8, 2) := by decide +kernel
theorem dX3_obey_53 : decode cX3_obey 53 = .ok (.if_icmp .ne 13, 3) := by decide +kernel
theorem dX3_obey_56 : decode cX3_obey 56 = .ok (.aload_n 0, 1) := by decide +kernel
theorem dX3_obey_57 : decode cX3_obey 57 = .ok (.dup, 1) := by decide +kernel
theorem dX3_obey_58 : decode cX3_obey 58 = .ok (.getfield 204, 3) := by decide +kernel
theorem dX3_obey_61 : decode cX3_obey 61 = .ok (.iconst 1, 1) := by decide +kernel
theorem dX3_obey_62 : decode cX3_obey 62 = .ok (.iadd, 1) := by decide +kernel
theorem dX3_obey_63 : decode cX3_obey 63 = .ok (.putfield 204, 3) := by decide +kernel
theorem dX3_obey_66 : decode cX3_obey 66 = .ok (.aload_n 0, 1) := by decide +kernel
theorem dX3_obey_67 : decode cX3_obey 67 = .ok (.aload_n 0, 1) := by decide +kernel
theorem dX3_obey_68 : decode cX3_obey 68 = .ok (.iload_n 1, 1) := by decide +kernel
theorem dX3_obey_69 : decode cX3_obey 69 = .ok (.aload_n 0, 1) := by decide +kernel
theorem dX3_obey_70 : decode cX3_obey 70 = .ok (.getfield 61, 3) := by decide +kernel
theorem dX3_obey_73 : decode cX3_obey 73 = .ok (.invokevirtual 164, 3) := by decide +kernel
theorem dX3_obey_76 : decode cX3_obey 76 = .ok (.putfield 61, 3) := by decide +kernel
theorem dX3_obey_79 : decode cX3_obey 79 = .ok (.return_, 1) := by decide +kernel
set_option maxRecDepth 20000 in
theorem ggX4_init_L_characters : GoodIn wsX4_init wsL_characters := goodIn_r _ [14, 7, 15, 16, 13, 17, 18, 19, 20] (by decide +kernel) (by decide +kernel)
set_option maxRecDepth 20000 in
theorem gX4_init_L_characters_n7 : GoodIn wsX4_init (wsL_characters) := ggX4_init_L_characters
end
section
theorem dX4_init_0 : decode cX4_init 0 = .ok (.aload_n 0, 1) := by decide +kernel
theorem dX4_init_1 : decode cX4_init 1 = .ok (.invokespecial 1, 3) := by decide +kernel
theorem dX4_init_4 : decode cX4_init 4 = .ok (.aload_n 0, 1) := by decide +kernel
theorem dX4_init_5 : decode cX4_init 5 = .ok (.iconst 0, 1) := by decide +kernel
theorem dX4_init_6 : decode cX4_init 6 = .ok (.invokestatic 7, 3) := by decide +kernel
theorem dX4_init_9 : decode cX4_init 9 = .ok (.putfield 13, 3) := by decide +kernel
theorem dX4_init_12 : decode cX4_init 12 = .ok (.aload_n 0, 1) := by decide +kernel
theorem dX4_init_13 : decode cX4_init 13 = .ok (.iconst 1, 1) := by decide +kernel
theorem dX4_init_14 : decode cX4_init 14 = .ok (.invokestatic 7, 3) := by decide +kernel
theorem dX4_init_17 : decode cX4_init 17 = .ok (.putfield 19, 3) := by decide +kernel
theorem dX4_init_20 : decode cX4_init 20 = .ok (.aload_n 0, 1) := by decide +kernel
theorem dX4_init_21 : decode cX4_init 21 = .ok (.iconst 1, 1) := by decide +kernel
theorem dX4_init_22 : decode cX4_init 22 = .ok (.anewarray 22, 3) := by decide +kernel
theorem dX4_init_25 : decode cX4_init 25 = .ok (.dup, 1) := by decide +kernel
theorem dX4_init_26 : decode cX4_init 26 = .ok (.iconst 0, 1) := by decide +kernel
theorem dX4_init_27 : decode cX4_init 27 = .ok (.iconst 0, 1) := by decide +kernel
theorem dX4_init_28 : decode cX4_init 28 = .ok (.newarray .int, 2) := by decide +kernel
theorem dX4_init_30 : decode cX4_init 30 = .ok (.aastore, 1) := by decide +kernel
theorem dX4_init_31 : decode cX4_init 31 = .ok (.putfield 23, 3) := by decide +kernel
theorem dX4_init_34 : decode cX4_init 34 = .ok (.aload_n 0, 1) := by decide +kernel
theorem dX4_init_35 : decode cX4_init 35 = .ok (.bipush 16, 2) := by decide +kernel
theorem dX4_init_37 : decode cX4_init 37 = .ok (.newarray .int, 2) := by decide +kernel
theorem dX4_init_39 : decode cX4_init 39 = .ok (.putfield 27, 3) := by decide +kernel
theorem dX4_init_42 : decode cX4_init 42 = .ok (.aload_n 0, 1) := by decide +kernel
theorem dX4_init_43 : decode cX4_init 43 = .ok (.bipush 16, 2) := by decide +kernel
theorem dX4_init_45 : decode cX4_init 45 = .ok (.newarray .int, 2) := by decide +kernel
theorem dX4_init_47 : decode cX4_init 47 = .ok (.putfield 30, 3) := by decide +kernel
theorem dX4_init_50 : decode cX4_init 50 = .ok (.aload_n 0, 1) := by decide +kernel
theorem dX4_init_51 : decode cX4_init 51 = .ok (.iconst 0, 1) := by decide +kernel
theorem dX4_init_52 : decode cX4_init 52 = .ok (.newarray .int, 2) := by decide +kernel
theorem dX4_init_54 : decode cX4_init 54 = .ok (.putfield 33, 3) := by decide +kernel
theorem dX4_init_57 : decode cX4_init 57 = .ok (.return_, 1) := by decide +kernel
theorem dX4_more_0 : decode cX4_more 0 = .ok (.aload_n 0, 1) := by decide +kernel
theorem dX4_more_1 : decode cX4_more 1 = .ok (.arraylength, 1) := by decide +kernel
theorem dX4_more_2 : decode cX4_more 2 = .ok (.iconst 1, 1) := by decide +kernel
theorem dX4_more_3 : decode cX4_more 3 = .ok (.iadd, 1) := by decide +kernel
theorem dX4_more_4 : decode cX4_more 4 = .ok (.newarray .int, 2) := by decide +kernel
theorem dX4_more_6 : decode cX4_more 6 = .ok (.astore_n 2, 1) := by decide +kernel
theorem dX4_more_7 : decode cX4_more 7 = .ok (.iconst 0, 1) := by decide +kernel
theorem dX4_more_8 : decode cX4_more 8 = .ok (.istore_n 3, 1) := by decide +kernel
theorem dX4_more_9 : decode cX4_more 9 = .ok (.iload_n 3, 1) := by decide +kernel
theorem dX4_more_10 : decode cX4_more 10 = .ok (.aload_n 0, 1) := by decide +kernel
theorem dX4_more_11 : decode cX4_more 11 = .ok (.arraylength, 1) := by decide +kernel
theorem dX4_more_12 : decode cX4_more 12 = .ok (.if_icmp .ge 15, 3) := by decide +kernel
theorem dX4_more_15 : decode cX4_more 15 = .ok (.aload_n 2, 1) := by decide +kernel
theorem dX4_more_16 : decode cX4_more 16 = .ok (.iload_n 3, 1) := by decide +kernel
theorem dX4_more_17 : decode cX4_more 17 = .ok (.aload_n 0, 1) := by decide +kernel
theorem dX4_more_18 : decode cX4_more 18 = .ok (.iload_n 3, 1) := by decide +kernel
theorem dX4_more_19 : decode cX4_more 19 = .ok (.iaload, 1) := by decide +kernel
theorem dX4_more_20 : decode cX4_more 20 = .ok (.iastore, 1) := by decide +kernel
theorem dX4_more_21 : decode cX4_more 21 = .ok (.iinc 3 1, 3) := by decide +kernel
theorem dX4_more_24 : decode cX4_more 24 = .ok (.goto (-15), 3) := by decide +kernel
theorem dX4_more_27 : decode cX4_more 27 = .ok (.aload_n 2, 1) := by decide +kernel
theorem dX4_more_28 : decode cX4_more 28 = .ok (.aload_n 0, 1) := by decide +kernel
theorem dX4_more_29 : decode cX4_more 29 = .ok (.arraylength, 1) := by decide +kernel
theorem dX4_more_30 : decode cX4_more 30 = .ok (.iload_n 1, 1) := by decide +kernel
theorem dX4_more_31 : decode cX4_more 31 = .ok (.iastore, 1) := by decide +kernel
theorem dX4_more_32 : decode cX4_more 32 = .ok (.aload_n 2, 1) := by decide +kernel
theorem dX4_more_33 : decode cX4_more 33 = .ok (.areturn, 1) := by decide +kernel
theorem dX4_read_0 : decode cX4_read 0 = .ok (.iconst 5, 1) := by decide +kernel
theorem dX4_read_1 : decode cX4_read 1 = .ok (.newarray .boolean, 2) := by decide +kernel
theorem dX4_read_3 : decode cX4_read 3 = .ok (.astore_n 3, 1) := by decide +kernel
theorem dX4_read_4 : decode cX4_read 4 = .ok (.iload_n 2, 1) := by decide +kernel
theorem dX4_read_5 : decode cX4_read 5 = .ok (.bipush 16, 2) := by decide +kernel
theorem dX4_read_7 : decode cX4_read 7 = .ok (.irem, 1) := by decide +kernel
theorem dX4_read_8 : decode cX4_read 8 = .ok (.istore 4, 2) := by decide +kernel
theorem dX4_read_10 : decode cX4_read 10 = .ok (.iconst 0, 1) := by decide +kernel
theorem dX4_read_11 : decode cX4_read 11 = .ok (.istore 5, 2) := by decide +kernel
theorem dX4_read_13 : decode cX4_read 13 = .ok (.iload 5, 2) := by decide +kernel
theorem dX4_read_15 : decode cX4_read 15 = .ok (.iconst 5, 1) := by decide +kernel
theorem dX4_read_16 : decode cX4_read 16 = .ok (.if_icmp .ge 39, 3) := by decide +kernel
theorem dX4_read_19 : decode cX4_read 19 = .ok (.aload_n 3, 1) := by decide +kernel
theorem dX4_read_20 : decode cX4_read 20 = .ok (.iload 5, 2) := by decide +kernel
theorem dX4_read_22 : decode cX4_read 22 = .ok (.iload_n 1, 1) := by decide +kernel
theorem dX4_read_23 : decode cX4_read 23 = .ok (.iload 5, 2) := by decide +kernel
theorem dX4_read_25 : decode cX4_read 25 = .ok (.ishr, 1) := by decide +kernel
theorem dX4_read_26 : decode cX4_read 26 = .ok (.iconst 1, 1) := by decide +kernel
theorem dX4_read_27 : decode cX4_read 27 = .ok (.iand, 1) := by decide +kernel
theorem dX4_read_28 : decode cX4_read 28 = .ok (.aload_n 0, 1) := by decide +kernel
theorem dX4_read_29 : decode cX4_read 29 = .ok (.getfield 30, 3) := by decide +kernel
theorem dX4_read_32 : decode cX4_read 32 = .ok (.iload 4, 2) := by decide +kernel
theorem dX4_read_34 : decode cX4_read 34 = .ok (.iaload, 1) := by decide +kernel
theorem dX4_read_35 : decode cX4_read 35 = .ok (.iload 5, 2) := by decide +kernel
theorem dX4_read_37 : decode cX4_read 37 = .ok (.ishr, 1) := by decide +kernel
theorem dX4_read_38 : decode cX4_read 38 = .ok (.iconst 1, 1) := by decide +kernel
theorem dX4_read_39 : decode cX4_read 39 = .ok (.iand, 1) := by decide +kernel
theorem dX4_read_40 : decode cX4_read 40 = .ok (.if_icmp .eq 7, 3) := by decide +kernel
theorem dX4_read_43 : decode cX4_read 43 = .ok (.iconst 1, 1) := by decide +kernel
theorem dX4_read_44 : decode cX4_read 44 = .ok (.goto 4, 3) := by decide +kernel
theorem dX4_read_47 : decode cX4_read 47 = .ok (.iconst 0, 1) := by decide +kernel
theorem dX4_read_48 : decode cX4_read 48 = .ok (.bastore, 1) := by decide +kernel
theorem dX4_read_49 : decode cX4_read 49 = .ok (.iinc 5 1, 3) := by decide +kernel
theorem dX4_read_52 : decode cX4_read 52 = .ok (.goto (-39), 3) := by decide +kernel
theorem dX4_read_55 : decode cX4_read 55 = .ok (.iconst 0, 1) := by decide +kernel
theorem dX4_read_56 : decode cX4_read 56 = .ok (.istore 5, 2) := by decide +kernel
theorem dX4_read_58 : decode cX4_read 58 = .ok (.iconst 0, 1) := by decide +kernel
theorem dX4_read_59 : decode cX4_read 59 = .ok (.istore 6, 2) := by decide +kernel
theorem dX4_read_61 : decode cX4_read 61 = .ok (.iload 6, 2) := by decide +kernel
theorem dX4_read_63 : decode cX4_read 63 = .ok (.iconst 5, 1) := by decide +kernel
theorem dX4_read_64 : decode cX4_read 64 = .ok (.if_icmp .ge 108, 3) := by decide +kernel
theorem dX4_read_67 : decode cX4_read 67 = .ok (.aload_n 0, 1) := by decide +kernel
theorem dX4_read_68 : decode cX4_read 68 = .ok (.getfield 27, 3) := by decide +kernel
theorem dX4_read_71 : decode cX4_read 71 = .ok (.iload 4, 2) := by decide +kernel
theorem dX4_read_73 : decode cX4_read 73 = .ok (.iaload, 1) := by decide +kernel
theorem dX4_read_74 : decode cX4_read 74 = .ok (.aload_n 0, 1) := by decide +kernel
theorem dX4_read_75 : decode cX4_read 75 = .ok (.getfield 36, 3) := by decide +kernel
theorem dX4_read_78 : decode cX4_read 78 = .ok (.if_icmp .le 26, 3) := by decide +kernel
theorem dX4_read_81 : decode cX4_read 81 = .ok (.iload 6, 2) := by decide +kernel
theorem dX4_read_83 : decode cX4_read 83 = .ok (.iconst 4, 1) := by decide +kernel
theorem dX4_read_84 : decode cX4_read 84 = .ok (.if_icmp .ge 16, 3) := by decide +kernel
theorem dX4_read_87 : decode cX4_read 87 = .ok (.aload_n 3, 1) := by decide +kernel
theorem dX4_read_88 : decode cX4_read 88 = .ok (.iload 6, 2) := by decide +kernel
theorem dX4_read_90 : decode cX4_read 90 = .ok (.iconst 1, 1) := by decide +kernel
theorem dX4_read_91 : decode cX4_read 91 = .ok (.iadd, 1) := by decide +kernel
theorem dX4_read_92 : decode cX4_read 92 = .ok (.baload, 1) := by decide +kernel
theorem dX4_read_93 : decode cX4_read 93 = .ok (.ifCond .eq 7, 3) := by decide +kernel
theorem dX4_read_96 : decode cX4_read 96 = .ok (.iconst 1, 1) := by decide +kernel
theorem dX4_read_97 : decode cX4_read 97 = .ok (.goto 49, 3) := by decide +kernel
theorem dX4_read_100 : decode cX4_read 100 = .ok (.iconst 0, 1) := by decide +kernel
theorem dX4_read_101 : decode cX4_read 101 = .ok (.goto 45, 3) := by decide +kernel
theorem dX4_read_104 : decode cX4_read 104 = .ok (.aload_n 0, 1) := by decide +kernel
theorem dX4_read_105 : decode cX4_read 105 = .ok (.getfield 27, 3) := by decide +kernel
theorem dX4_read_108 : decode cX4_read 108 = .ok (.iload 4, 2) := by decide +kernel
theorem dX4_read_110 : decode cX4_read 110 = .ok (.iaload, 1) := by decide +kernel
theorem dX4_read_111 : decode cX4_read 111 = .ok (.iconst 0, 1) := by decide +kernel
theorem dX4_read_112 : decode cX4_read 112 = .ok (.aload_n 0, 1) := by decide +kernel
theorem dX4_read_113 : decode cX4_read 113 = .ok (.getfield 36, 3) := by decide +kernel
theorem dX4_read_116 : decode cX4_read 116 = .ok (.isub, 1) := by decide +kernel
theorem dX4_read_117 : decode cX4_read 117 = .ok (.if_icmp .ge 25, 3) := by decide +kernel
theorem dX4_read_120 : decode cX4_read 120 = .ok (.iload 6, 2) := by decide +kernel
theorem dX4_read_122 : decode cX4_read 122 = .ok (.ifCond .eq 12, 3) := by decide +kernel
theorem dX4_read_125 : decode cX4_read 125 = .ok (.aload_n 3, 1) := by decide +kernel
theorem dX4_read_126 : decode cX4_read 126 = .ok (.iload 6, 2) := by decide +kernel
theorem dX4_read_128 : decode cX4_read 128 = .ok (.iconst 1, 1) := by decide +kernel
theorem dX4_read_129 : decode cX4_read 129 = .ok (.isub, 1) := by decide +kernel
theorem dX4_read_130 : decode cX4_read 130 = .ok (.baload, 1) := by decide +kernel
theorem dX4_read_131 : decode cX4_read 131 = .ok (.ifCond .eq 7, 3) := by decide +kernel
theorem dX4_read_134 : decode cX4_read 134 = .ok (.iconst 1, 1) := by decide +kernel
theorem dX4_read_135 : decode cX4_read 135 = .ok (.goto 11, 3) := by decide +kernel
theorem dX4_read_138 : decode cX4_read 138 = .ok (.iconst 0, 1) := by decide +kernel
theorem dX4_read_139 : decode cX4_read 139 = .ok (.goto 7, 3) := by decide +kernel
theorem dX4_read_142 : decode cX4_read 142 = .ok (.aload_n 3, 1) := by decide +kernel
theorem dX4_read_143 : decode cX4_read 143 = .ok (.iload 6, 2) := by decide +kernel
theorem dX4_read_145 : decode cX4_read 145 = .ok (.baload, 1) := by decide +kernel
theorem dX4_read_146 : decode cX4_read 146 = .ok (.istore 7, 2) := by decide +kernel
theorem dX4_read_148 : decode cX4_read 148 = .ok (.iload 5, 2) := by decide +kernel
theorem dX4_read_150 : decode cX4_read 150 = .ok (.iload 7, 2) := by decide +kernel
theorem dX4_read_152 : decode cX4_read 152 = .ok (.ifCond .eq 10, 3) := by decide +kernel
theorem dX4_read_155 : decode cX4_read 155 = .ok (.iconst 1, 1) := by decide +kernel
theorem dX4_read_156 : decode cX4_read 156 = .ok (.iload 6, 2) := by decide +kernel
theorem dX4_read_158 : decode cX4_read 158 = .ok (.ishl, 1) := by decide +kernel
theorem dX4_read_159 : decode cX4_read 159 = .ok (.goto 4, 3) := by decide +kernel
theorem dX4_read_162 : decode cX4_read 162 = .ok (.iconst 0, 1) := by decide +kernel
theorem dX4_read_163 : decode cX4_read 163 = .ok (.iadd, 1) := by decide +kernel
theorem dX4_read_164 : decode cX4_read 164 = .ok (.istore 5, 2) := by decide +kernel
theorem dX4_read_166 : decode cX4_read 166 = .ok (.iinc 6 1, 3) := by decide +kernel
theorem dX4_read_169 : decode cX4_read 169 = .ok (.goto (-108), 3) := by decide +kernel
theorem dX4_read_172 : decode cX4_read 172 = .ok (.iload 5, 2) := by decide +kernel
theorem dX4_read_174 : decode cX4_read 174 = .ok (.ireturn, 1) := by decide +kernel
theorem dX4_after_0 : decode cX4_after 0 = .ok (.iload_n 2, 1) := by decide +kernel
theorem dX4_after_1 : decode cX4_after 1 = .ok (.bipush 27, 2) := by decide +kernel
theorem dX4_after_3 : decode cX4_after 3 = .ok (.if_icmp .eq 30, 3) := by decide +kernel
theorem dX4_after_6 : decode cX4_after 6 = .ok (.iload_n 2, 1) := by decide +kernel
theorem dX4_after_7 : decode cX4_after 7 = .ok (.bipush 31, 2) := by decide +kernel
theorem dX4_after_9 : decode cX4_after 9 = .ok (.if_icmp .eq 28, 3) := by decide +kernel
theorem dX4_after_12 : decode cX4_after 12 = .ok (.iload_n 2, 1) := by decide +kernel
theorem dX4_after_13 : decode cX4_after 13 = .ok (.iconst 2, 1) := by decide +kernel
theorem dX4_after_14 : decode cX4_after 14 = .ok (.if_icmp .eq 23, 3) := by decide +kernel
theorem dX4_after_17 : decode cX4_after 17 = .ok (.iload_n 2, 1) := by decide +kernel
theorem dX4_after_18 : decode cX4_after 18 = .ok (.iconst 4, 1) := by decide +kernel
theorem dX4_after_19 : decode cX4_after 19 = .ok (.if_icmp .ne 10, 3) := by decide +kernel
theorem dX4_after_22 : decode cX4_after 22 = .ok (.aload_n 0, 1) := by decide +kernel
theorem dX4_after_23 : decode cX4_after 23 = .ok (.getfield 40, 3) := by decide +kernel
theorem dX4_after_26 : decode cX4_after 26 = .ok (.ifCond .ne 11, 3) := by decide +kernel
theorem dX4_after_29 : decode cX4_after 29 = .ok (.iload_n 1, 1) := by decide +kernel
theorem dX4_after_30 : decode cX4_after 30 = .ok (.ifCond .eq 7, 3) := by decide +kernel
theorem dX4_after_33 : decode cX4_after 33 = .ok (.iconst 1, 1) := by decide +kernel
theorem dX4_after_34 : decode cX4_after 34 = .ok (.goto 4, 3) := by decide +kernel
theorem dX4_after_37 : decode cX4_after 37 = .ok (.iconst 0, 1) := by decide +kernel
theorem dX4_after_38 : decode cX4_after 38 = .ok (.ireturn, 1) := by decide +kernel
set_option maxRecDepth 20000 in
theorem ggX4_come_X4_read : GoodIn wsX4_come wsX4_read := goodIn_r _ [15, 16, 17, 18, 19, 28, 29, 30, 31, 32, 33, 34, 35, 36, 37, 38, 39, 40, 41] (by decide +kernel) (by decide +kernel)
set_option maxRecDepth 20000 in
theorem gX4_come_X4_read : GoodIn wsX4_come (wsV RX4 47 RX4 yX4_read wsX4_read) := goodIn_app (goodIn_of _ (by decide +kernel)) ggX4_come_X4_read
set_option maxRecDepth 20000 in
theorem ggX4_come_X4_more : GoodIn wsX4_come wsX4_more := goodIn_r _ [22, 6] (by decide +kernel) (by decide +kernel)
set_option maxRecDepth 20000 in
theorem gX4_come_X4_more : GoodIn wsX4_come (va_wsS RX4 63 yX4_more wsX4_more) := goodIn_app (goodIn_of _ (by decide +kernel)) ggX4_come_X4_more
set_option maxRecDepth 20000 in
theorem ggX4_come_X4_after : GoodIn wsX4_come wsX4_after := goodIn_r _ [26, 27, 28, 29, 30, 31, 32, 33, 34, 35, 36, 37, 38, 39, 40, 41] (by decide +kernel) (by decide +kernel)
set_option maxRecDepth 20000 in
theorem gX4_come_X4_after : GoodIn wsX4_come (wsV RX4 67 RX4 yX4_after wsX4_after) := goodIn_app (goodIn_of _ (by decide +kernel)) ggX4_come_X4_after
theorem dX4_come_0 : decode cX4_come 0 = .ok (.aload_n 0, 1) := by decide +kernel
theorem dX4_come_1 : decode cX4_come 1 = .ok (.iload_n 1, 1) := by decide +kernel
theorem dX4_come_2 : decode cX4_come 2 = .ok (.aload_n 0, 1) := by decide +kernel
theorem dX4_come_3 : decode cX4_come 3 = .ok (.getfield 44, 3) := by decide +kernel
theorem dX4_come_6 : decode cX4_come 6 = .ok (.invokevirtual 47, 3) := by decide +kernel
theorem dX4_come_9 : decode cX4_come 9 = .ok (.istore_n 2, 1) := by decide +kernel
theorem dX4_come_10 : decode cX4_come 10 = .ok (.aload_n 0, 1) := by decide +kernel
theorem dX4_come_11 : decode cX4_come 11 = .ok (.dup, 1) := by decide +kernel
theorem dX4_come_12 : decode cX4_come 12 = .ok (.getfield 44, 3) := by decide +kernel
theorem dX4_come_15 : decode cX4_come 15 = .ok (.iconst 1, 1) := by decide +kernel
theorem dX4_come_16 : decode cX4_come 16 = .ok (.iadd, 1) := by decide +kernel
theorem dX4_come_17 : decode cX4_come 17 = .ok (.putfield 44, 3) := by decide +kernel
theorem dX4_come_20 : decode cX4_come 20 = .ok (.iload_n 2, 1) := by decide +kernel
theorem dX4_come_21 : decode cX4_come 21 = .ok (.iload_n 1, 1) := by decide +kernel
theorem dX4_come_22 : decode cX4_come 22 = .ok (.if_icmp .eq 13, 3) := by decide +kernel
theorem dX4_come_25 : decode cX4_come 25 = .ok (.aload_n 0, 1) := by decide +kernel
theorem dX4_come_26 : decode cX4_come 26 = .ok (.dup, 1) := by decide +kernel
theorem dX4_come_27 : decode cX4_come 27 = .ok (.getfield 51, 3) := by decide +kernel
theorem dX4_come_30 : decode cX4_come 30 = .ok (.iconst 1, 1) := by decide +kernel
theorem dX4_come_31 : decode cX4_come 31 = .ok (.iadd, 1) := by decide +kernel
theorem dX4_come_32 : decode cX4_come 32 = .ok (.putfield 51, 3) := by decide +kernel
theorem dX4_come_35 : decode cX4_come 35 = .ok (.iload_n 2, 1) := by decide +kernel
theorem dX4_come_36 : decode cX4_come 36 = .ok (.bipush 8, 2) := by decide +kernel
theorem dX4_come_38 : decode cX4_come 38 = .ok (.if_icmp .ne 13, 3) := by decide +kernel
theorem dX4_come_41 : decode cX4_come 41 = .ok (.aload_n 0, 1) := by decide +kernel
theorem dX4_come_42 : decode cX4_come 42 = .ok (.dup, 1) := by decide +kernel
theorem dX4_come_43 : decode cX4_come 43 = .ok (.getfield 54, 3) := by decide +kernel
theorem dX4_come_46 : decode cX4_come 46 = .ok (.iconst 1, 1) := by decide +kernel
theorem dX4_come_47 : decode cX4_come 47 = .ok (.iadd, 1) := by decide +kernel
theorem dX4_come_48 : decode cX4_come 48 = .ok (.putfield 54, 3) := by decide +kernel
theorem dX4_come_51 : decode cX4_come 51 = .ok (.iload_n 2, 1) := by decide +kernel
theorem dX4_come_52 : decode cX4_come 52 = .ok (.iconst 2, 1) := by decide +kernel
theorem dX4_come_53 : decode cX4_come 53 = .ok (.if_icmp .ne 92, 3) := by decide +kernel
theorem dX4_come_56 : decode cX4_come 56 = .ok (.aload_n 0, 1) := by decide +kernel
theorem dX4_come_57 : decode cX4_come 57 = .ok (.getfield 23, 3) := by decide +kernel
theorem dX4_come_60 : decode cX4_come 60 = .ok (.arraylength, 1) := by decide +kernel
theorem dX4_come_61 : decode cX4_come 61 = .ok (.istore_n 3, 1) := by decide +kernel
theorem dX4_come_62 : decode cX4_come 62 = .ok (.iload_n 3, 1) := by decide +kernel
theorem dX4_come_63 : decode cX4_come 63 = .ok (.bipush 20, 2) := by decide +kernel
theorem dX4_come_65 : decode cX4_come 65 = .ok (.if_icmp .ne 8, 3) := by decide +kernel
theorem dX4_come_68 : decode cX4_come 68 = .ok (.bipush 20, 2) := by decide +kernel
theorem dX4_come_70 : decode cX4_come 70 = .ok (.goto 6, 3) := by decide +kernel
theorem dX4_come_73 : decode cX4_come 73 = .ok (.iload_n 3, 1) := by decide +kernel
theorem dX4_come_74 : decode cX4_come 74 = .ok (.iconst 1, 1) := by decide +kernel
theorem dX4_come_75 : decode cX4_come 75 = .ok (.iadd, 1) := by decide +kernel
theorem dX4_come_76 : decode cX4_come 76 = .ok (.anewarray 22, 3) := by decide +kernel
theorem dX4_come_79 : decode cX4_come 79 = .ok (.astore 4, 2) := by decide +kernel
theorem dX4_come_81 : decode cX4_come 81 = .ok (.iconst 0, 1) := by decide +kernel
theorem dX4_come_82 : decode cX4_come 82 = .ok (.istore 5, 2) := by decide +kernel
theorem dX4_come_84 : decode cX4_come 84 = .ok (.iload 5, 2) := by decide +kernel
theorem dX4_come_86 : decode cX4_come 86 = .ok (.aload 4, 2) := by decide +kernel
theorem dX4_come_88 : decode cX4_come 88 = .ok (.arraylength, 1) := by decide +kernel
theorem dX4_come_89 : decode cX4_come 89 = .ok (.if_icmp .ge 50, 3) := by decide +kernel
theorem dX4_come_92 : decode cX4_come 92 = .ok (.aload 4, 2) := by decide +kernel
theorem dX4_come_94 : decode cX4_come 94 = .ok (.iload 5, 2) := by decide +kernel
theorem dX4_come_96 : decode cX4_come 96 = .ok (.iload 5, 2) := by decide +kernel
theorem dX4_come_98 : decode cX4_come 98 = .ok (.iconst 1, 1) := by decide +kernel
theorem dX4_come_99 : decode cX4_come 99 = .ok (.iadd, 1) := by decide +kernel
theorem dX4_come_100 : decode cX4_come 100 = .ok (.aload 4, 2) := by decide +kernel
theorem dX4_come_102 : decode cX4_come 102 = .ok (.arraylength, 1) := by decide +kernel
theorem dX4_come_103 : decode cX4_come 103 = .ok (.if_icmp .ne 9, 3) := by decide +kernel
theorem dX4_come_106 : decode cX4_come 106 = .ok (.iconst 0, 1) := by decide +kernel
theorem dX4_come_107 : decode cX4_come 107 = .ok (.newarray .int, 2) := by decide +kernel
theorem dX4_come_109 : decode cX4_come 109 = .ok (.goto 23, 3) := by decide +kernel
theorem dX4_come_112 : decode cX4_come 112 = .ok (.aload_n 0, 1) := by decide +kernel
theorem dX4_come_113 : decode cX4_come 113 = .ok (.getfield 23, 3) := by decide +kernel
theorem dX4_come_116 : decode cX4_come 116 = .ok (.iload_n 3, 1) := by decide +kernel
theorem dX4_come_117 : decode cX4_come 117 = .ok (.bipush 20, 2) := by decide +kernel
theorem dX4_come_119 : decode cX4_come 119 = .ok (.if_icmp .ne 10, 3) := by decide +kernel
theorem dX4_come_122 : decode cX4_come 122 = .ok (.iload 5, 2) := by decide +kernel
theorem dX4_come_124 : decode cX4_come 124 = .ok (.iconst 1, 1) := by decide +kernel
theorem dX4_come_125 : decode cX4_come 125 = .ok (.iadd, 1) := by decide +kernel
theorem dX4_come_126 : decode cX4_come 126 = .ok (.goto 5, 3) := by decide +kernel
theorem dX4_come_129 : decode cX4_come 129 = .ok (.iload 5, 2) := by decide +kernel
theorem dX4_come_131 : decode cX4_come 131 = .ok (.aaload, 1) := by decide +kernel
theorem dX4_come_132 : decode cX4_come 132 = .ok (.aastore, 1) := by decide +kernel
theorem dX4_come_133 : decode cX4_come 133 = .ok (.iinc 5 1, 3) := by decide +kernel
theorem dX4_come_136 : decode cX4_come 136 = .ok (.goto (-52), 3) := by decide +kernel
theorem dX4_come_139 : decode cX4_come 139 = .ok (.aload_n 0, 1) := by decide +kernel
theorem dX4_come_140 : decode cX4_come 140 = .ok (.aload 4, 2) := by decide +kernel
theorem dX4_come_142 : decode cX4_come 142 = .ok (.putfield 23, 3) := by decide +kernel
theorem dX4_come_145 : decode cX4_come 145 = .ok (.aload_n 0, 1) := by decide +kernel
theorem dX4_come_146 : decode cX4_come 146 = .ok (.getfield 57, 3) := by decide +kernel
theorem dX4_come_149 : decode cX4_come 149 = .ok (.ifCond .eq 12, 3) := by decide +kernel
theorem dX4_come_152 : decode cX4_come 152 = .ok (.aload_n 0, 1) := by decide +kernel
theorem dX4_come_153 : decode cX4_come 153 = .ok (.getfield 19, 3) := by decide +kernel
theorem dX4_come_156 : decode cX4_come 156 = .ok (.iload_n 2, 1) := by decide +kernel
theorem dX4_come_157 : decode cX4_come 157 = .ok (.iaload, 1) := by decide +kernel
theorem dX4_come_158 : decode cX4_come 158 = .ok (.goto 9, 3) := by decide +kernel
theorem dX4_come_161 : decode cX4_come 161 = .ok (.aload_n 0, 1) := by decide +kernel
theorem dX4_come_162 : decode cX4_come 162 = .ok (.getfield 13, 3) := by decide +kernel
theorem dX4_come_165 : decode cX4_come 165 = .ok (.iload_n 2, 1) := by decide +kernel
theorem dX4_come_166 : decode cX4_come 166 = .ok (.iaload, 1) := by decide +kernel
theorem dX4_come_167 : decode cX4_come 167 = .ok (.istore_n 3, 1) := by decide +kernel
theorem dX4_come_168 : decode cX4_come 168 = .ok (.iload_n 3, 1) := by decide +kernel
theorem dX4_come_169 : decode cX4_come 169 = .ok (.ifCond .le 61, 3) := by decide +kernel
theorem dX4_come_172 : decode cX4_come 172 = .ok (.iload_n 2, 1) := by decide +kernel
theorem dX4_come_173 : decode cX4_come 173 = .ok (.iconst 2, 1) := by decide +kernel
theorem dX4_come_174 : decode cX4_come 174 = .ok (.if_icmp .eq 56, 3) := by decide +kernel
theorem dX4_come_177 : decode cX4_come 177 = .ok (.aload_n 0, 1) := by decide +kernel
theorem dX4_come_178 : decode cX4_come 178 = .ok (.getfield 23, 3) := by decide +kernel
theorem dX4_come_181 : decode cX4_come 181 = .ok (.arraylength, 1) := by decide +kernel
theorem dX4_come_182 : decode cX4_come 182 = .ok (.iconst 1, 1) := by decide +kernel
theorem dX4_come_183 : decode cX4_come 183 = .ok (.isub, 1) := by decide +kernel
theorem dX4_come_184 : decode cX4_come 184 = .ok (.istore 4, 2) := by decide +kernel
theorem dX4_come_186 : decode cX4_come 186 = .ok (.aload_n 0, 1) := by decide +kernel
theorem dX4_come_187 : decode cX4_come 187 = .ok (.getfield 23, 3) := by decide +kernel
theorem dX4_come_190 : decode cX4_come 190 = .ok (.iload 4, 2) := by decide +kernel
theorem dX4_come_192 : decode cX4_come 192 = .ok (.aaload, 1) := by decide +kernel
theorem dX4_come_193 : decode cX4_come 193 = .ok (.arraylength, 1) := by decide +kernel
theorem dX4_come_194 : decode cX4_come 194 = .ok (.bipush 40, 2) := by decide +kernel
theorem dX4_come_196 : decode cX4_come 196 = .ok (.if_icmp .ne 16, 3) := by decide +kernel
theorem dX4_come_199 : decode cX4_come 199 = .ok (.aload_n 0, 1) := by decide +kernel
theorem dX4_come_200 : decode cX4_come 200 = .ok (.dup, 1) := by decide +kernel
theorem dX4_come_201 : decode cX4_come 201 = .ok (.getfield 60, 3) := by decide +kernel
theorem dX4_come_204 : decode cX4_come 204 = .ok (.iconst 1, 1) := by decide +kernel
theorem dX4_come_205 : decode cX4_come 205 = .ok (.iadd, 1) := by decide +kernel
theorem dX4_come_206 : decode cX4_come 206 = .ok (.putfield 60, 3) := by decide +kernel
theorem dX4_come_209 : decode cX4_come 209 = .ok (.goto 21, 3) := by decide +kernel
theorem dX4_come_212 : decode cX4_come 212 = .ok (.aload_n 0, 1) := by decide +kernel
theorem dX4_come_213 : decode cX4_come 213 = .ok (.getfield 23, 3) := by decide +kernel
theorem dX4_come_216 : decode cX4_come 216 = .ok (.iload 4, 2) := by decide +kernel
theorem dX4_come_218 : decode cX4_come 218 = .ok (.aload_n 0, 1) := by decide +kernel
theorem dX4_come_219 : decode cX4_come 219 = .ok (.getfield 23, 3) := by decide +kernel
theorem dX4_come_222 : decode cX4_come 222 = .ok (.iload 4, 2) := by decide +kernel
theorem dX4_come_224 : decode cX4_come 224 = .ok (.aaload, 1) := by decide +kernel
theorem dX4_come_225 : decode cX4_come 225 = .ok (.iload_n 3, 1) := by decide +kernel
theorem dX4_come_226 : decode cX4_come 226 = .ok (.invokestatic 63, 3) := by decide +kernel
theorem dX4_come_229 : decode cX4_come 229 = .ok (.aastore, 1) := by decide +kernel
theorem dX4_come_230 : decode cX4_come 230 = .ok (.aload_n 0, 1) := by decide +kernel
theorem dX4_come_231 : decode cX4_come 231 = .ok (.aload_n 0, 1) := by decide +kernel
theorem dX4_come_232 : decode cX4_come 232 = .ok (.aload_n 0, 1) := by decide +kernel
theorem dX4_come_233 : decode cX4_come 233 = .ok (.getfield 57, 3) := by decide +kernel
theorem dX4_come_236 : decode cX4_come 236 = .ok (.iload_n 2, 1) := by decide +kernel
theorem dX4_come_237 : decode cX4_come 237 = .ok (.invokevirtual 67, 3) := by decide +kernel
theorem dX4_come_240 : decode cX4_come 240 = .ok (.putfield 57, 3) := by decide +kernel
theorem dX4_come_243 : decode cX4_come 243 = .ok (.iload_n 2, 1) := by decide +kernel
theorem dX4_come_244 : decode cX4_come 244 = .ok (.ireturn, 1) := by decide +kernel
set_option maxRecDepth 20000 in
theorem ggX4_shifts_X4_after : GoodIn wsX4_shifts wsX4_after := goodIn_r _ [7, 8, 9, 10, 11, 12, 13, 14, 15, 16, 17, 18, 19, 20, 21, 22] (by decide +kernel) (by decide +kernel)
set_option maxRecDepth 20000 in
theorem gX4_shifts_X4_after : GoodIn wsX4_shifts (wsV RX4 67 RX4 yX4_after wsX4_after) := goodIn_app (goodIn_of _ (by decide +kernel)) ggX4_shifts_X4_after
theorem dX4_shifts_0 : decode cX4_shifts 0 = .ok (.aload_n 0, 1) := by decide +kernel
theorem dX4_shifts_1 : decode cX4_shifts 1 = .ok (.getfield 33, 3) := by decide +kernel
theorem dX4_shifts_4 : decode cX4_shifts 4 = .ok (.arraylength, 1) := by decide +kernel
theorem dX4_shifts_5 : decode cX4_shifts 5 = .ok (.iconst 1, 1) := by decide +kernel
theorem dX4_shifts_6 : decode cX4_shifts 6 = .ok (.iadd, 1) := by decide +kernel
theorem dX4_shifts_7 : decode cX4_shifts 7 = .ok (.newarray .boolean, 2) := by decide +kernel
theorem dX4_shifts_9 : decode cX4_shifts 9 = .ok (.astore_n 1, 1) := by decide +kernel
theorem dX4_shifts_10 : decode cX4_shifts 10 = .ok (.iconst 0, 1) := by decide +kernel
theorem dX4_shifts_11 : decode cX4_shifts 11 = .ok (.istore_n 2, 1) := by decide +kernel
theorem dX4_shifts_12 : decode cX4_shifts 12 = .ok (.iload_n 2, 1) := by decide +kernel
theorem dX4_shifts_13 : decode cX4_shifts 13 = .ok (.aload_n 0, 1) := by decide +kernel
theorem dX4_shifts_14 : decode cX4_shifts 14 = .ok (.getfield 33, 3) := by decide +kernel
theorem dX4_shifts_17 : decode cX4_shifts 17 = .ok (.arraylength, 1) := by decide +kernel
theorem dX4_shifts_18 : decode cX4_shifts 18 = .ok (.if_icmp .ge 27, 3) := by decide +kernel
theorem dX4_shifts_21 : decode cX4_shifts 21 = .ok (.aload_n 1, 1) := by decide +kernel
theorem dX4_shifts_22 : decode cX4_shifts 22 = .ok (.iload_n 2, 1) := by decide +kernel
theorem dX4_shifts_23 : decode cX4_shifts 23 = .ok (.iconst 1, 1) := by decide +kernel
theorem dX4_shifts_24 : decode cX4_shifts 24 = .ok (.iadd, 1) := by decide +kernel
theorem dX4_shifts_25 : decode cX4_shifts 25 = .ok (.aload_n 0, 1) := by decide +kernel
theorem dX4_shifts_26 : decode cX4_shifts 26 = .ok (.aload_n 1, 1) := by decide +kernel
theorem dX4_shifts_27 : decode cX4_shifts 27 = .ok (.iload_n 2, 1) := by decide +kernel
theorem dX4_shifts_28 : decode cX4_shifts 28 = .ok (.baload, 1) := by decide +kernel
theorem dX4_shifts_29 : decode cX4_shifts 29 = .ok (.aload_n 0, 1) := by decide +kernel
theorem dX4_shifts_30 : decode cX4_shifts 30 = .ok (.getfield 33, 3) := by decide +kernel
theorem dX4_shifts_33 : decode cX4_shifts 33 = .ok (.iload_n 2, 1) := by decide +kernel
theorem dX4_shifts_34 : decode cX4_shifts 34 = .ok (.iaload, 1) := by decide +kernel
theorem dX4_shifts_35 : decode cX4_shifts 35 = .ok (.invokevirtual 67, 3) := by decide +kernel
theorem dX4_shifts_38 : decode cX4_shifts 38 = .ok (.bastore, 1) := by decide +kernel
theorem dX4_shifts_39 : decode cX4_shifts 39 = .ok (.iinc 2 1, 3) := by decide +kernel
theorem dX4_shifts_42 : decode cX4_shifts 42 = .ok (.goto (-30), 3) := by decide +kernel
theorem dX4_shifts_45 : decode cX4_shifts 45 = .ok (.aload_n 1, 1) := by decide +kernel
theorem dX4_shifts_46 : decode cX4_shifts 46 = .ok (.areturn, 1) := by decide +kernel
set_option maxRecDepth 20000 in
theorem ggX4_isSame_X3_length : GoodIn wsX4_isSame wsX3_length := goodIn_ca (goodIn_r _ [18, 19, 20, 21, 22, 23, 24, 25, 26, 27, 28, 29, 30, 31, 32, 33, 34, 35, 141, 142, 143, 144, 145, 146, 147, 148, 149, 150, 151, 152, 153, 154, 155] (by decide +kernel) (by decide +kernel)) (goodIn_sub (fun _ h => List.mem_cons_of_mem _ (List.mem_append_right _ h)) (by decide +kernel))
set_option maxRecDepth 20000 in
theorem gX4_isSame_X3_length : GoodIn wsX4_isSame (wsV RX4 71 RX3 yX3_length wsX3_length) := goodIn_app (goodIn_of _ (by decide +kernel)) ggX4_isSame_X3_length
set_option maxRecDepth 20000 in
theorem ggX4_isSame_X3_page : GoodIn wsX4_isSame wsX3_page := goodIn_ca (goodIn_r _ [39, 19, 20, 21, 22, 23, 24, 25, 26, 27, 28, 29, 40, 41, 42, 33, 43, 35, 44, 45, 46, 47, 48, 49, 141, 142, 143, 144, 145, 146, 147, 148, 149, 150, 151, 152, 153, 154, 155] (by decide +kernel) (by decide +kernel)) (goodIn_sub (fun _ h => List.mem_cons_of_mem _ (List.mem_append_right _ h)) (by decide +kernel))
set_option maxRecDepth 20000 in
theorem gX4_isSame_X3_page : GoodIn wsX4_isSame (wsV RX4 77 RX3 yX3_page wsX3_page) := goodIn_app (goodIn_of _ (by decide +kernel)) ggX4_isSame_X3_page
set_option maxRecDepth 20000 in
theorem ggX4_isSame_X4_shifts : GoodIn wsX4_isSame wsX4_shifts := goodIn_r _ [54, 2, 55, 56, 57, 58, 53, 59, 12, 127, 128, 129, 130, 131, 132, 133, 134, 135, 136, 137, 138, 139, 140] (by decide +kernel) (by decide +kernel)
set_option maxRecDepth 20000 in
theorem gX4_isSame_X4_shifts : GoodIn wsX4_isSame (wsV RX4 79 RX4 yX4_shifts wsX4_shifts) := goodIn_app (goodIn_of _ (by decide +kernel)) ggX4_isSame_X4_shifts
set_option maxRecDepth 20000 in
theorem ggX4_isSame_X3_tape : GoodIn wsX4_isSame wsX3_tape := goodIn_ca (goodIn_r _ [63, 19, 20, 64, 40, 41, 42, 33, 43, 35, 44, 45, 46, 47, 48, 49, 141, 142, 143, 144, 145, 146, 147, 148, 149, 150, 154, 155] (by decide +kernel) (by decide +kernel)) (goodIn_sub (fun _ h => List.mem_cons_of_mem _ (List.mem_append_right _ h)) (by decide +kernel))
set_option maxRecDepth 20000 in
theorem gX4_isSame_X3_tape : GoodIn wsX4_isSame (wsV RX4 83 RX3 yX3_tape wsX3_tape) := goodIn_app (goodIn_of _ (by decide +kernel)) ggX4_isSame_X3_tape
set_option maxRecDepth 20000 in
theorem ggX4_isSame_X3_prints : GoodIn wsX4_isSame wsX3_prints := goodIn_ca (goodIn_r _ [68, 19, 20, 64, 40, 41, 42, 33, 43, 35, 44, 45, 46, 47, 48, 49, 69, 70, 71, 17, 72, 30, 31, 32, 34, 73, 74, 75, 76, 77, 78, 79, 80, 81, 82, 83, 84, 85, 86, 87, 88, 89, 90, 91, 141, 142, 143, 144, 145, 146, 147, 148, 149, 150, 154, 155] (by decide +kernel) (by decide +kernel)) (goodIn_sub (fun _ h => List.mem_cons_of_mem _ (List.mem_append_right _ h)) (by decide +kernel))
set_option maxRecDepth 20000 in
theorem gX4_isSame_X3_prints : GoodIn wsX4_isSame (wsV RX4 85 RX3 yX3_prints wsX3_prints) := goodIn_app (goodIn_of _ (by decide +kernel)) ggX4_isSame_X3_prints
set_option maxRecDepth 20000 in
theorem ggX4_isSame_X3_count : GoodIn wsX4_isSame wsX3_count := goodIn_ca (goodIn_r _ [95, 19, 20, 96, 97, 98, 17, 99, 21, 100, 101, 64, 102, 103, 104, 105, 81, 106, 107, 108, 109, 25, 110, 27, 111, 112, 113, 114, 115, 23, 24, 26, 28, 29, 116, 31, 32, 33, 34, 35, 117, 118, 119, 120, 121, 122, 30, 141, 142, 143, 144, 145, 146, 147, 148, 149, 150, 151, 152, 153, 154, 155, 156, 157, 158] (by decide +kernel) (by decide +kernel)) (goodIn_sub (fun _ h => List.mem_cons_of_mem _ (List.mem_append_right _ h)) (by decide +kernel))
set_option maxRecDepth 20000 in
theorem gX4_isSame_X3_count : GoodIn wsX4_isSame (wsV RX4 91 RX3 yX3_count wsX3_count) := goodIn_app (goodIn_of _ (by decide +kernel)) ggX4_isSame_X3_count
set_option maxRecDepth 20000 in
theorem ggX4_isSame_X3_mean : GoodIn wsX4_isSame wsX3_mean := goodIn_r _ [126, 21, 107, 108, 109, 25, 110, 27, 111, 112, 113, 114, 115, 23, 24, 26, 28, 29, 116, 31, 32, 33, 34, 35, 141, 142, 143, 144, 145, 146, 147, 148, 149, 150, 151, 152, 153, 154, 155] (by decide +kernel) (by decide +kernel)
set_option maxRecDepth 20000 in
theorem gX4_isSame_X3_mean : GoodIn wsX4_isSame (wsV RX4 94 RX3 yX3_mean wsX3_mean) := goodIn_app (goodIn_of _ (by decide +kernel)) ggX4_isSame_X3_mean
theorem dX4_isSame_0 : decode cX4_isSame 0 = .ok (.iconst 0, 1) := by decide +kernel
theorem dX4_isSame_1 : decode cX4_isSame 1 = .ok (.istore_n 2, 1) := by decide +kernel
theorem dX4_isSame_2 : decode cX4_isSame 2 = .ok (.iconst 0, 1) := by decide +kernel
theorem dX4_isSame_3 : decode cX4_isSame 3 = .ok (.istore_n 3, 1) := by decide +kernel
theorem dX4_isSame_4 : decode cX4_isSame 4 = .ok (.iload_n 3, 1) := by decide +kernel
theorem dX4_isSame_5 : decode cX4_isSame 5 = .ok (.aload_n 0, 1) := by decide +kernel
theorem dX4_isSame_6 : decode cX4_isSame 6 = .ok (.getfield 23, 3) := by decide +kernel
theorem dX4_isSame_9 : decode cX4_isSame 9 = .ok (.arraylength, 1) := by decide +kernel
theorem dX4_isSame_10 : decode cX4_isSame 10 = .ok (.if_icmp .ge 78, 3) := by decide +kernel
theorem dX4_isSame_13 : decode cX4_isSame 13 = .ok (.aload_n 1, 1) := by decide +kernel
theorem dX4_isSame_14 : decode cX4_isSame 14 = .ok (.iload_n 3, 1) := by decide +kernel
theorem dX4_isSame_15 : decode cX4_isSame 15 = .ok (.invokevirtual 71, 3) := by decide +kernel
theorem dX4_isSame_18 : decode cX4_isSame 18 = .ok (.aload_n 0, 1) := by decide +kernel
theorem dX4_isSame_19 : decode cX4_isSame 19 = .ok (.getfield 23, 3) := by decide +kernel
theorem dX4_isSame_22 : decode cX4_isSame 22 = .ok (.iload_n 3, 1) := by decide +kernel
theorem dX4_isSame_23 : decode cX4_isSame 23 = .ok (.aaload, 1) := by decide +kernel
theorem dX4_isSame_24 : decode cX4_isSame 24 = .ok (.arraylength, 1) := by decide +kernel
theorem dX4_isSame_25 : decode cX4_isSame 25 = .ok (.if_icmp .eq 5, 3) := by decide +kernel
theorem dX4_isSame_28 : decode cX4_isSame 28 = .ok (.iconst 0, 1) := by decide +kernel
theorem dX4_isSame_29 : decode cX4_isSame 29 = .ok (.ireturn, 1) := by decide +kernel
theorem dX4_isSame_30 : decode cX4_isSame 30 = .ok (.iload_n 2, 1) := by decide +kernel
theorem dX4_isSame_31 : decode cX4_isSame 31 = .ok (.aload_n 0, 1) := by decide +kernel
theorem dX4_isSame_32 : decode cX4_isSame 32 = .ok (.getfield 23, 3) := by decide +kernel
theorem dX4_isSame_35 : decode cX4_isSame 35 = .ok (.iload_n 3, 1) := by decide +kernel
theorem dX4_isSame_36 : decode cX4_isSame 36 = .ok (.aaload, 1) := by decide +kernel
theorem dX4_isSame_37 : decode cX4_isSame 37 = .ok (.arraylength, 1) := by decide +kernel
theorem dX4_isSame_38 : decode cX4_isSame 38 = .ok (.iadd, 1) := by decide +kernel
theorem dX4_isSame_39 : decode cX4_isSame 39 = .ok (.istore_n 2, 1) := by decide +kernel
theorem dX4_isSame_40 : decode cX4_isSame 40 = .ok (.iconst 0, 1) := by decide +kernel
theorem dX4_isSame_41 : decode cX4_isSame 41 = .ok (.istore 4, 2) := by decide +kernel
theorem dX4_isSame_43 : decode cX4_isSame 43 = .ok (.iload 4, 2) := by decide +kernel
theorem dX4_isSame_45 : decode cX4_isSame 45 = .ok (.aload_n 0, 1) := by decide +kernel
theorem dX4_isSame_46 : decode cX4_isSame 46 = .ok (.getfield 23, 3) := by decide +kernel
theorem dX4_isSame_49 : decode cX4_isSame 49 = .ok (.iload_n 3, 1) := by decide +kernel
theorem dX4_isSame_50 : decode cX4_isSame 50 = .ok (.aaload, 1) := by decide +kernel
theorem dX4_isSame_51 : decode cX4_isSame 51 = .ok (.arraylength, 1) := by decide +kernel
theorem dX4_isSame_52 : decode cX4_isSame 52 = .ok (.if_icmp .ge 30, 3) := by decide +kernel
theorem dX4_isSame_55 : decode cX4_isSame 55 = .ok (.aload_n 1, 1) := by decide +kernel
theorem dX4_isSame_56 : decode cX4_isSame 56 = .ok (.iload_n 3, 1) := by decide +kernel
theorem dX4_isSame_57 : decode cX4_isSame 57 = .ok (.iload 4, 2) := by decide +kernel
theorem dX4_isSame_59 : decode cX4_isSame 59 = .ok (.invokevirtual 77, 3) := by decide +kernel
theorem dX4_isSame_62 : decode cX4_isSame 62 = .ok (.aload_n 0, 1) := by decide +kernel
theorem dX4_isSame_63 : decode cX4_isSame 63 = .ok (.getfield 23, 3) := by decide +kernel
theorem dX4_isSame_66 : decode cX4_isSame 66 = .ok (.iload_n 3, 1) := by decide +kernel
theorem dX4_isSame_67 : decode cX4_isSame 67 = .ok (.aaload, 1) := by decide +kernel
theorem dX4_isSame_68 : decode cX4_isSame 68 = .ok (.iload 4, 2) := by decide +kernel
theorem dX4_isSame_70 : decode cX4_isSame 70 = .ok (.iaload, 1) := by decide +kernel
theorem dX4_isSame_71 : decode cX4_isSame 71 = .ok (.if_icmp .eq 5, 3) := by decide +kernel
theorem dX4_isSame_74 : decode cX4_isSame 74 = .ok (.iconst 0, 1) := by decide +kernel
theorem dX4_isSame_75 : decode cX4_isSame 75 = .ok (.ireturn, 1) := by decide +kernel
theorem dX4_isSame_76 : decode cX4_isSame 76 = .ok (.iinc 4 1, 3) := by decide +kernel
theorem dX4_isSame_79 : decode cX4_isSame 79 = .ok (.goto (-36), 3) := by decide +kernel
theorem dX4_isSame_82 : decode cX4_isSame 82 = .ok (.iinc 3 1, 3) := by decide +kernel
theorem dX4_isSame_85 : decode cX4_isSame 85 = .ok (.goto (-81), 3) := by decide +kernel
theorem dX4_isSame_88 : decode cX4_isSame 88 = .ok (.aload_n 0, 1) := by decide +kernel
theorem dX4_isSame_89 : decode cX4_isSame 89 = .ok (.invokevirtual 79, 3) := by decide +kernel
theorem dX4_isSame_92 : decode cX4_isSame 92 = .ok (.astore_n 3, 1) := by decide +kernel
theorem dX4_isSame_93 : decode cX4_isSame 93 = .ok (.iconst 0, 1) := by decide +kernel
theorem dX4_isSame_94 : decode cX4_isSame 94 = .ok (.istore 4, 2) := by decide +kernel
theorem dX4_isSame_96 : decode cX4_isSame 96 = .ok (.iload 4, 2) := by decide +kernel
theorem dX4_isSame_98 : decode cX4_isSame 98 = .ok (.aload_n 0, 1) := by decide +kernel
theorem dX4_isSame_99 : decode cX4_isSame 99 = .ok (.getfield 33, 3) := by decide +kernel
theorem dX4_isSame_102 : decode cX4_isSame 102 = .ok (.arraylength, 1) := by decide +kernel
theorem dX4_isSame_103 : decode cX4_isSame 103 = .ok (.if_icmp .ge 70, 3) := by decide +kernel
theorem dX4_isSame_106 : decode cX4_isSame 106 = .ok (.aload_n 1, 1) := by decide +kernel
theorem dX4_isSame_107 : decode cX4_isSame 107 = .ok (.iload 4, 2) := by decide +kernel
theorem dX4_isSame_109 : decode cX4_isSame 109 = .ok (.invokevirtual 83, 3) := by decide +kernel
theorem dX4_isSame_112 : decode cX4_isSame 112 = .ok (.aload_n 0, 1) := by decide +kernel
theorem dX4_isSame_113 : decode cX4_isSame 113 = .ok (.getfield 33, 3) := by decide +kernel
theorem dX4_isSame_116 : decode cX4_isSame 116 = .ok (.iload 4, 2) := by decide +kernel
theorem dX4_isSame_118 : decode cX4_isSame 118 = .ok (.iaload, 1) := by decide +kernel
theorem dX4_isSame_119 : decode cX4_isSame 119 = .ok (.if_icmp .ne 46, 3) := by decide +kernel
theorem dX4_isSame_122 : decode cX4_isSame 122 = .ok (.aload_n 1, 1) := by decide +kernel
theorem dX4_isSame_123 : decode cX4_isSame 123 = .ok (.iload 4, 2) := by decide +kernel
theorem dX4_isSame_125 : decode cX4_isSame 125 = .ok (.invokevirtual 85, 3) := by decide +kernel
theorem dX4_isSame_128 : decode cX4_isSame 128 = .ok (.aload_n 3, 1) := by decide +kernel
theorem dX4_isSame_129 : decode cX4_isSame 129 = .ok (.iload 4, 2) := by decide +kernel
theorem dX4_isSame_131 : decode cX4_isSame 131 = .ok (.baload, 1) := by decide +kernel
theorem dX4_isSame_132 : decode cX4_isSame 132 = .ok (.ifCond .eq 18, 3) := by decide +kernel
theorem dX4_isSame_135 : decode cX4_isSame 135 = .ok (.aload_n 0, 1) := by decide +kernel
theorem dX4_isSame_136 : decode cX4_isSame 136 = .ok (.getfield 19, 3) := by decide +kernel
theorem dX4_isSame_139 : decode cX4_isSame 139 = .ok (.aload_n 0, 1) := by decide +kernel
theorem dX4_isSame_140 : decode cX4_isSame 140 = .ok (.getfield 33, 3) := by decide +kernel
theorem dX4_isSame_143 : decode cX4_isSame 143 = .ok (.iload 4, 2) := by decide +kernel
theorem dX4_isSame_145 : decode cX4_isSame 145 = .ok (.iaload, 1) := by decide +kernel
theorem dX4_isSame_146 : decode cX4_isSame 146 = .ok (.iaload, 1) := by decide +kernel
theorem dX4_isSame_147 : decode cX4_isSame 147 = .ok (.goto 15, 3) := by decide +kernel
theorem dX4_isSame_150 : decode cX4_isSame 150 = .ok (.aload_n 0, 1) := by decide +kernel
theorem dX4_isSame_151 : decode cX4_isSame 151 = .ok (.getfield 13, 3) := by decide +kernel
theorem dX4_isSame_154 : decode cX4_isSame 154 = .ok (.aload_n 0, 1) := by decide +kernel
theorem dX4_isSame_155 : decode cX4_isSame 155 = .ok (.getfield 33, 3) := by decide +kernel
theorem dX4_isSame_158 : decode cX4_isSame 158 = .ok (.iload 4, 2) := by decide +kernel
theorem dX4_isSame_160 : decode cX4_isSame 160 = .ok (.iaload, 1) := by decide +kernel
theorem dX4_isSame_161 : decode cX4_isSame 161 = .ok (.iaload, 1) := by decide +kernel
theorem dX4_isSame_162 : decode cX4_isSame 162 = .ok (.if_icmp .eq 5, 3) := by decide +kernel
theorem dX4_isSame_165 : decode cX4_isSame 165 = .ok (.iconst 0, 1) := by decide +kernel
theorem dX4_isSame_166 : decode cX4_isSame 166 = .ok (.ireturn, 1) := by decide +kernel
theorem dX4_isSame_167 : decode cX4_isSame 167 = .ok (.iinc 4 1, 3) := by decide +kernel
theorem dX4_isSame_170 : decode cX4_isSame 170 = .ok (.goto (-74), 3) := by decide +kernel
theorem dX4_isSame_173 : decode cX4_isSame 173 = .ok (.bipush 11, 2) := by decide +kernel
theorem dX4_isSame_175 : decode cX4_isSame 175 = .ok (.newarray .int, 2) := by decide +kernel
theorem dX4_isSame_177 : decode cX4_isSame 177 = .ok (.dup, 1) := by decide +kernel
theorem dX4_isSame_178 : decode cX4_isSame 178 = .ok (.iconst 0, 1) := by decide +kernel
theorem dX4_isSame_179 : decode cX4_isSame 179 = .ok (.aload_n 0, 1) := by decide +kernel
theorem dX4_isSame_180 : decode cX4_isSame 180 = .ok (.getfield 23, 3) := by decide +kernel
theorem dX4_isSame_183 : decode cX4_isSame 183 = .ok (.arraylength, 1) := by decide +kernel
theorem dX4_isSame_184 : decode cX4_isSame 184 = .ok (.iastore, 1) := by decide +kernel
theorem dX4_isSame_185 : decode cX4_isSame 185 = .ok (.dup, 1) := by decide +kernel
theorem dX4_isSame_186 : decode cX4_isSame 186 = .ok (.iconst 1, 1) := by decide +kernel
theorem dX4_isSame_187 : decode cX4_isSame 187 = .ok (.iload_n 2, 1) := by decide +kernel
theorem dX4_isSame_188 : decode cX4_isSame 188 = .ok (.iastore, 1) := by decide +kernel
theorem dX4_isSame_189 : decode cX4_isSame 189 = .ok (.dup, 1) := by decide +kernel
theorem dX4_isSame_190 : decode cX4_isSame 190 = .ok (.iconst 2, 1) := by decide +kernel
theorem dX4_isSame_191 : decode cX4_isSame 191 = .ok (.aload_n 0, 1) := by decide +kernel
theorem dX4_isSame_192 : decode cX4_isSame 192 = .ok (.getfield 57, 3) := by decide +kernel
theorem dX4_isSame_195 : decode cX4_isSame 195 = .ok (.ifCond .eq 7, 3) := by decide +kernel
theorem dX4_isSame_198 : decode cX4_isSame 198 = .ok (.iconst 1, 1) := by decide +kernel
theorem dX4_isSame_199 : decode cX4_isSame 199 = .ok (.goto 4, 3) := by decide +kernel
theorem dX4_isSame_202 : decode cX4_isSame 202 = .ok (.iconst 0, 1) := by decide +kernel
theorem dX4_isSame_203 : decode cX4_isSame 203 = .ok (.iastore, 1) := by decide +kernel
theorem dX4_isSame_204 : decode cX4_isSame 204 = .ok (.dup, 1) := by decide +kernel
theorem dX4_isSame_205 : decode cX4_isSame 205 = .ok (.iconst 3, 1) := by decide +kernel
theorem dX4_isSame_206 : decode cX4_isSame 206 = .ok (.aload_n 0, 1) := by decide +kernel
theorem dX4_isSame_207 : decode cX4_isSame 207 = .ok (.getfield 36, 3) := by decide +kernel
theorem dX4_isSame_210 : decode cX4_isSame 210 = .ok (.iastore, 1) := by decide +kernel
theorem dX4_isSame_211 : decode cX4_isSame 211 = .ok (.dup, 1) := by decide +kernel
theorem dX4_isSame_212 : decode cX4_isSame 212 = .ok (.iconst 4, 1) := by decide +kernel
theorem dX4_isSame_213 : decode cX4_isSame 213 = .ok (.aload_n 0, 1) := by decide +kernel
theorem dX4_isSame_214 : decode cX4_isSame 214 = .ok (.getfield 33, 3) := by decide +kernel
theorem dX4_isSame_217 : decode cX4_isSame 217 = .ok (.arraylength, 1) := by decide +kernel
theorem dX4_isSame_218 : decode cX4_isSame 218 = .ok (.iastore, 1) := by decide +kernel
theorem dX4_isSame_219 : decode cX4_isSame 219 = .ok (.dup, 1) := by decide +kernel
theorem dX4_isSame_220 : decode cX4_isSame 220 = .ok (.iconst 5, 1) := by decide +kernel
theorem dX4_isSame_221 : decode cX4_isSame 221 = .ok (.aload_n 0, 1) := by decide +kernel
theorem dX4_isSame_222 : decode cX4_isSame 222 = .ok (.getfield 88, 3) := by decide +kernel
theorem dX4_isSame_225 : decode cX4_isSame 225 = .ok (.iastore, 1) := by decide +kernel
theorem dX4_isSame_226 : decode cX4_isSame 226 = .ok (.dup, 1) := by decide +kernel
theorem dX4_isSame_227 : decode cX4_isSame 227 = .ok (.bipush 6, 2) := by decide +kernel
theorem dX4_isSame_229 : decode cX4_isSame 229 = .ok (.aload_n 0, 1) := by decide +kernel
theorem dX4_isSame_230 : decode cX4_isSame 230 = .ok (.getfield 44, 3) := by decide +kernel
theorem dX4_isSame_233 : decode cX4_isSame 233 = .ok (.iastore, 1) := by decide +kernel
theorem dX4_isSame_234 : decode cX4_isSame 234 = .ok (.dup, 1) := by decide +kernel
theorem dX4_isSame_235 : decode cX4_isSame 235 = .ok (.bipush 7, 2) := by decide +kernel
theorem dX4_isSame_237 : decode cX4_isSame 237 = .ok (.aload_n 0, 1) := by decide +kernel
theorem dX4_isSame_238 : decode cX4_isSame 238 = .ok (.getfield 51, 3) := by decide +kernel
theorem dX4_isSame_241 : decode cX4_isSame 241 = .ok (.iastore, 1) := by decide +kernel
theorem dX4_isSame_242 : decode cX4_isSame 242 = .ok (.dup, 1) := by decide +kernel
theorem dX4_isSame_243 : decode cX4_isSame 243 = .ok (.bipush 8, 2) := by decide +kernel
theorem dX4_isSame_245 : decode cX4_isSame 245 = .ok (.aload_n 0, 1) := by decide +kernel
theorem dX4_isSame_246 : decode cX4_isSame 246 = .ok (.getfield 60, 3) := by decide +kernel
theorem dX4_isSame_249 : decode cX4_isSame 249 = .ok (.iastore, 1) := by decide +kernel
theorem dX4_isSame_250 : decode cX4_isSame 250 = .ok (.dup, 1) := by decide +kernel
theorem dX4_isSame_251 : decode cX4_isSame 251 = .ok (.bipush 9, 2) := by decide +kernel
theorem dX4_isSame_253 : decode cX4_isSame 253 = .ok (.aload_n 0, 1) := by decide +kernel
theorem dX4_isSame_254 : decode cX4_isSame 254 = .ok (.getfield 40, 3) := by decide +kernel
theorem dX4_isSame_257 : decode cX4_isSame 257 = .ok (.ifCond .eq 7, 3) := by decide +kernel
theorem dX4_isSame_260 : decode cX4_isSame 260 = .ok (.iconst 1, 1) := by decide +kernel
theorem dX4_isSame_261 : decode cX4_isSame 261 = .ok (.goto 4, 3) := by decide +kernel
theorem dX4_isSame_264 : decode cX4_isSame 264 = .ok (.iconst 0, 1) := by decide +kernel
theorem dX4_isSame_265 : decode cX4_isSame 265 = .ok (.iastore, 1) := by decide +kernel
theorem dX4_isSame_266 : decode cX4_isSame 266 = .ok (.dup, 1) := by decide +kernel
theorem dX4_isSame_267 : decode cX4_isSame 267 = .ok (.bipush 10, 2) := by decide +kernel
theorem dX4_isSame_269 : decode cX4_isSame 269 = .ok (.aload_n 0, 1) := by decide +kernel
theorem dX4_isSame_270 : decode cX4_isSame 270 = .ok (.getfield 54, 3) := by decide +kernel
theorem dX4_isSame_273 : decode cX4_isSame 273 = .ok (.iastore, 1) := by decide +kernel
theorem dX4_isSame_274 : decode cX4_isSame 274 = .ok (.astore 4, 2) := by decide +kernel
theorem dX4_isSame_276 : decode cX4_isSame 276 = .ok (.iconst 0, 1) := by decide +kernel
theorem dX4_isSame_277 : decode cX4_isSame 277 = .ok (.istore 5, 2) := by decide +kernel
theorem dX4_isSame_279 : decode cX4_isSame 279 = .ok (.iload 5, 2) := by decide +kernel
theorem dX4_isSame_281 : decode cX4_isSame 281 = .ok (.bipush 11, 2) := by decide +kernel
theorem dX4_isSame_283 : decode cX4_isSame 283 = .ok (.if_icmp .ge 25, 3) := by decide +kernel
theorem dX4_isSame_286 : decode cX4_isSame 286 = .ok (.aload_n 1, 1) := by decide +kernel
theorem dX4_isSame_287 : decode cX4_isSame 287 = .ok (.iload 5, 2) := by decide +kernel
theorem dX4_isSame_289 : decode cX4_isSame 289 = .ok (.invokevirtual 91, 3) := by decide +kernel
theorem dX4_isSame_292 : decode cX4_isSame 292 = .ok (.aload 4, 2) := by decide +kernel
theorem dX4_isSame_294 : decode cX4_isSame 294 = .ok (.iload 5, 2) := by decide +kernel
theorem dX4_isSame_296 : decode cX4_isSame 296 = .ok (.iaload, 1) := by decide +kernel
theorem dX4_isSame_297 : decode cX4_isSame 297 = .ok (.if_icmp .eq 5, 3) := by decide +kernel
theorem dX4_isSame_300 : decode cX4_isSame 300 = .ok (.iconst 0, 1) := by decide +kernel
theorem dX4_isSame_301 : decode cX4_isSame 301 = .ok (.ireturn, 1) := by decide +kernel
theorem dX4_isSame_302 : decode cX4_isSame 302 = .ok (.iinc 5 1, 3) := by decide +kernel
theorem dX4_isSame_305 : decode cX4_isSame 305 = .ok (.goto (-26), 3) := by decide +kernel
theorem dX4_isSame_308 : decode cX4_isSame 308 = .ok (.aload_n 1, 1) := by decide +kernel
theorem dX4_isSame_309 : decode cX4_isSame 309 = .ok (.invokevirtual 94, 3) := by decide +kernel
theorem dX4_isSame_312 : decode cX4_isSame 312 = .ok (.iload_n 2, 1) := by decide +kernel
theorem dX4_isSame_313 : decode cX4_isSame 313 = .ok (.i2d, 1) := by decide +kernel
theorem dX4_isSame_314 : decode cX4_isSame 314 = .ok (.aload_n 0, 1) := by decide +kernel
theorem dX4_isSame_315 : decode cX4_isSame 315 = .ok (.getfield 23, 3) := by decide +kernel
theorem dX4_isSame_318 : decode cX4_isSame 318 = .ok (.arraylength, 1) := by decide +kernel
theorem dX4_isSame_319 : decode cX4_isSame 319 = .ok (.i2d, 1) := by decide +kernel
theorem dX4_isSame_320 : decode cX4_isSame 320 = .ok (.ddiv, 1) := by decide +kernel
theorem dX4_isSame_321 : decode cX4_isSame 321 = .ok (.dcmp .l, 1) := by decide +kernel
theorem dX4_isSame_322 : decode cX4_isSame 322 = .ok (.ifCond .ne 7, 3) := by decide +kernel
theorem dX4_isSame_325 : decode cX4_isSame 325 = .ok (.iconst 1, 1) := by decide +kernel
theorem dX4_isSame_326 : decode cX4_isSame 326 = .ok (.goto 4, 3) := by decide +kernel
theorem dX4_isSame_329 : decode cX4_isSame 329 = .ok (.iconst 0, 1) := by decide +kernel
theorem dX4_isSame_330 : decode cX4_isSame 330 = .ok (.ireturn, 1) := by decide +kernel
theorem dJ9_min_7cf53_0 : decode cJ9_min_7cf53 0 = .ok (.iload_n 0, 1) := by decide +kernel
theorem dJ9_min_7cf53_1 : decode cJ9_min_7cf53 1 = .ok (.iload_n 1, 1) := by decide +kernel
theorem dJ9_min_7cf53_2 : decode cJ9_min_7cf53 2 = .ok (.if_icmp .gt 7, 3) := by decide +kernel
theorem dJ9_min_7cf53_5 : decode cJ9_min_7cf53 5 = .ok (.iload_n 0, 1) := by decide +kernel
theorem dJ9_min_7cf53_6 : decode cJ9_min_7cf53 6 = .ok (.goto 4, 3) := by decide +kernel
theorem dJ9_min_7cf53_9 : decode cJ9_min_7cf53 9 = .ok (.iload_n 1, 1) := by decide +kernel
theorem dJ9_min_7cf53_10 : decode cJ9_min_7cf53 10 = .ok (.ireturn, 1) := by decide +kernel
end
section
theorem dL_below_0 : decode cL_below 0 = .ok (.iload_n 0, 1) := by decide +kernel
theorem dL_below_1 : decode cL_below 1 = .ok (.ldc 7, 2) := by decide +kernel
theorem dL_below_3 : decode cL_below 3 = .ok (.iand, 1) := by decide +kernel
theorem dL_below_4 : decode cL_below 4 = .ok (.iload_n 1, 1) := by decide +kernel
theorem dL_below_5 : decode cL_below 5 = .ok (.irem, 1) := by decide +kernel
theorem dL_below_6 : decode cL_below 6 = .ok (.ireturn, 1) := by decide +kernel
theorem dL_cell_0 : decode cL_cell 0 = .ok (.iload_n 1, 1) := by decide +kernel
theorem dL_cell_1 : decode cL_cell 1 = .ok (.aload_n 0, 1) := by decide +kernel
theorem dL_cell_2 : decode cL_cell 2 = .ok (.arraylength, 1) := by decide +kernel
theorem dL_cell_3 : decode cL_cell 3 = .ok (.if_icmp .ge 9, 3) := by decide +kernel
theorem dL_cell_6 : decode cL_cell 6 = .ok (.aload_n 0, 1) := by decide +kernel
theorem dL_cell_7 : decode cL_cell 7 = .ok (.iload_n 1, 1) := by decide +kernel
theorem dL_cell_8 : decode cL_cell 8 = .ok (.iaload, 1) := by decide +kernel
theorem dL_cell_9 : decode cL_cell 9 = .ok (.goto 9, 3) := by decide +kernel
theorem dL_cell_12 : decode cL_cell 12 = .ok (.ldc 8, 2) := by decide +kernel
theorem dL_cell_14 : decode cL_cell 14 = .ok (.iload_n 1, 1) := by decide +kernel
theorem dL_cell_15 : decode cL_cell 15 = .ok (.iconst 3, 1) := by decide +kernel
theorem dL_cell_16 : decode cL_cell 16 = .ok (.iadd, 1) := by decide +kernel
theorem dL_cell_17 : decode cL_cell 17 = .ok (.imul, 1) := by decide +kernel
theorem dL_cell_18 : decode cL_cell 18 = .ok (.ireturn, 1) := by decide +kernel
theorem dL_isType_0 : decode cL_isType 0 = .ok (.iload_n 0, 1) := by decide +kernel
theorem dL_isType_1 : decode cL_isType 1 = .ok (.ifCond .le 35, 3) := by decide +kernel
theorem dL_isType_4 : decode cL_isType 4 = .ok (.iload_n 0, 1) := by decide +kernel
theorem dL_isType_5 : decode cL_isType 5 = .ok (.iconst 2, 1) := by decide +kernel
theorem dL_isType_6 : decode cL_isType 6 = .ok (.if_icmp .eq 30, 3) := by decide +kernel
theorem dL_isType_9 : decode cL_isType 9 = .ok (.iload_n 0, 1) := by decide +kernel
theorem dL_isType_10 : decode cL_isType 10 = .ok (.iconst 4, 1) := by decide +kernel
theorem dL_isType_11 : decode cL_isType 11 = .ok (.if_icmp .eq 25, 3) := by decide +kernel
theorem dL_isType_14 : decode cL_isType 14 = .ok (.iload_n 0, 1) := by decide +kernel
theorem dL_isType_15 : decode cL_isType 15 = .ok (.bipush 8, 2) := by decide +kernel
theorem dL_isType_17 : decode cL_isType 17 = .ok (.if_icmp .eq 19, 3) := by decide +kernel
theorem dL_isType_20 : decode cL_isType 20 = .ok (.iload_n 0, 1) := by decide +kernel
theorem dL_isType_21 : decode cL_isType 21 = .ok (.bipush 27, 2) := by decide +kernel
theorem dL_isType_23 : decode cL_isType 23 = .ok (.if_icmp .eq 13, 3) := by decide +kernel
theorem dL_isType_26 : decode cL_isType 26 = .ok (.iload_n 0, 1) := by decide +kernel
theorem dL_isType_27 : decode cL_isType 27 = .ok (.bipush 31, 2) := by decide +kernel
theorem dL_isType_29 : decode cL_isType 29 = .ok (.if_icmp .ge 7, 3) := by decide +kernel
theorem dL_isType_32 : decode cL_isType 32 = .ok (.iconst 1, 1) := by decide +kernel
theorem dL_isType_33 : decode cL_isType 33 = .ok (.goto 4, 3) := by decide +kernel
theorem dL_isType_36 : decode cL_isType 36 = .ok (.iconst 0, 1) := by decide +kernel
theorem dL_isType_37 : decode cL_isType 37 = .ok (.ireturn, 1) := by decide +kernel
set_option maxRecDepth 20000 in
theorem ggL_codes_L_isType : GoodIn wsL_codes wsL_isType := goodIn_r _ [5] (by decide +kernel) (by decide +kernel)
set_option maxRecDepth 20000 in
theorem gL_codes_L_isType : GoodIn wsL_codes (va_wsS RL 9 yL_isType wsL_isType) := goodIn_app (goodIn_of _ (by decide +kernel)) ggL_codes_L_isType
theorem dL_codes_0 : decode cL_codes 0 = .ok (.bipush 55, 2) := by decide +kernel
theorem dL_codes_2 : decode cL_codes 2 = .ok (.newarray .int, 2) := by decide +kernel
theorem dL_codes_4 : decode cL_codes 4 = .ok (.astore_n 0, 1) := by decide +kernel
theorem dL_codes_5 : decode cL_codes 5 = .ok (.iconst 1, 1) := by decide +kernel
theorem dL_codes_6 : decode cL_codes 6 = .ok (.istore_n 1, 1) := by decide +kernel
theorem dL_codes_7 : decode cL_codes 7 = .ok (.iconst 0, 1) := by decide +kernel
theorem dL_codes_8 : decode cL_codes 8 = .ok (.istore_n 2, 1) := by decide +kernel
theorem dL_codes_9 : decode cL_codes 9 = .ok (.iload_n 2, 1) := by decide +kernel
theorem dL_codes_10 : decode cL_codes 10 = .ok (.bipush 32, 2) := by decide +kernel
theorem dL_codes_12 : decode cL_codes 12 = .ok (.if_icmp .ge 33, 3) := by decide +kernel
theorem dL_codes_15 : decode cL_codes 15 = .ok (.iload_n 2, 1) := by decide +kernel
theorem dL_codes_16 : decode cL_codes 16 = .ok (.invokestatic 9, 3) := by decide +kernel
theorem dL_codes_19 : decode cL_codes 19 = .ok (.ifCond .ne 6, 3) := by decide +kernel
theorem dL_codes_22 : decode cL_codes 22 = .ok (.goto 17, 3) := by decide +kernel
theorem dL_codes_25 : decode cL_codes 25 = .ok (.aload_n 0, 1) := by decide +kernel
theorem dL_codes_26 : decode cL_codes 26 = .ok (.iload_n 1, 1) := by decide +kernel
theorem dL_codes_27 : decode cL_codes 27 = .ok (.iload_n 2, 1) := by decide +kernel
theorem dL_codes_28 : decode cL_codes 28 = .ok (.iastore, 1) := by decide +kernel
theorem dL_codes_29 : decode cL_codes 29 = .ok (.aload_n 0, 1) := by decide +kernel
theorem dL_codes_30 : decode cL_codes 30 = .ok (.iload_n 1, 1) := by decide +kernel
theorem dL_codes_31 : decode cL_codes 31 = .ok (.bipush 26, 2) := by decide +kernel
theorem dL_codes_33 : decode cL_codes 33 = .ok (.iadd, 1) := by decide +kernel
theorem dL_codes_34 : decode cL_codes 34 = .ok (.iload_n 2, 1) := by decide +kernel
theorem dL_codes_35 : decode cL_codes 35 = .ok (.iastore, 1) := by decide +kernel
theorem dL_codes_36 : decode cL_codes 36 = .ok (.iinc 1 1, 3) := by decide +kernel
theorem dL_codes_39 : decode cL_codes 39 = .ok (.iinc 2 1, 3) := by decide +kernel
theorem dL_codes_42 : decode cL_codes 42 = .ok (.goto (-33), 3) := by decide +kernel
theorem dL_codes_45 : decode cL_codes 45 = .ok (.aload_n 0, 1) := by decide +kernel
theorem dL_codes_46 : decode cL_codes 46 = .ok (.bipush 53, 2) := by decide +kernel
theorem dL_codes_48 : decode cL_codes 48 = .ok (.iconst 4, 1) := by decide +kernel
theorem dL_codes_49 : decode cL_codes 49 = .ok (.iastore, 1) := by decide +kernel
theorem dL_codes_50 : decode cL_codes 50 = .ok (.aload_n 0, 1) := by decide +kernel
theorem dL_codes_51 : decode cL_codes 51 = .ok (.bipush 54, 2) := by decide +kernel
theorem dL_codes_53 : decode cL_codes 53 = .ok (.iconst 2, 1) := by decide +kernel
theorem dL_codes_54 : decode cL_codes 54 = .ok (.iastore, 1) := by decide +kernel
theorem dL_codes_55 : decode cL_codes 55 = .ok (.aload_n 0, 1) := by decide +kernel
theorem dL_codes_56 : decode cL_codes 56 = .ok (.areturn, 1) := by decide +kernel
set_option maxRecDepth 20000 in
theorem ggL_characters_L_codes : GoodIn wsL_characters wsL_codes := goodIn_r _ [5, 1, 6, 7, 4, 8] (by decide +kernel) (by decide +kernel)
set_option maxRecDepth 20000 in
theorem gL_characters_L_codes : GoodIn wsL_characters (va_wsS RL 15 yL_codes wsL_codes) := goodIn_app (goodIn_of _ (by decide +kernel)) ggL_characters_L_codes
theorem dL_characters_0 : decode cL_characters 0 = .ok (.bipush 32, 2) := by decide +kernel
theorem dL_characters_2 : decode cL_characters 2 = .ok (.newarray .int, 2) := by decide +kernel
theorem dL_characters_4 : decode cL_characters 4 = .ok (.astore_n 1, 1) := by decide +kernel
theorem dL_characters_5 : decode cL_characters 5 = .ok (.invokestatic 15, 3) := by decide +kernel
theorem dL_characters_8 : decode cL_characters 8 = .ok (.astore_n 2, 1) := by decide +kernel
theorem dL_characters_9 : decode cL_characters 9 = .ok (.iconst 1, 1) := by decide +kernel
theorem dL_characters_10 : decode cL_characters 10 = .ok (.istore_n 3, 1) := by decide +kernel
theorem dL_characters_11 : decode cL_characters 11 = .ok (.iload_n 3, 1) := by decide +kernel
theorem dL_characters_12 : decode cL_characters 12 = .ok (.bipush 55, 2) := by decide +kernel
theorem dL_characters_14 : decode cL_characters 14 = .ok (.if_icmp .ge 36, 3) := by decide +kernel
theorem dL_characters_17 : decode cL_characters 17 = .ok (.iload_n 3, 1) := by decide +kernel
theorem dL_characters_18 : decode cL_characters 18 = .ok (.bipush 52, 2) := by decide +kernel
theorem dL_characters_20 : decode cL_characters 20 = .ok (.if_icmp .gt 18, 3) := by decide +kernel
theorem dL_characters_23 : decode cL_characters 23 = .ok (.iload_n 3, 1) := by decide +kernel
theorem dL_characters_24 : decode cL_characters 24 = .ok (.bipush 26, 2) := by decide +kernel
theorem dL_characters_26 : decode cL_characters 26 = .ok (.if_icmp .le 7, 3) := by decide +kernel
theorem dL_characters_29 : decode cL_characters 29 = .ok (.iconst 1, 1) := by decide +kernel
theorem dL_characters_30 : decode cL_characters 30 = .ok (.goto 4, 3) := by decide +kernel
theorem dL_characters_33 : decode cL_characters 33 = .ok (.iconst 0, 1) := by decide +kernel
theorem dL_characters_34 : decode cL_characters 34 = .ok (.iload_n 0, 1) := by decide +kernel
theorem dL_characters_35 : decode cL_characters 35 = .ok (.if_icmp .ne 9, 3) := by decide +kernel
theorem dL_characters_38 : decode cL_characters 38 = .ok (.aload_n 1, 1) := by decide +kernel
theorem dL_characters_39 : decode cL_characters 39 = .ok (.aload_n 2, 1) := by decide +kernel
theorem dL_characters_40 : decode cL_characters 40 = .ok (.iload_n 3, 1) := by decide +kernel
theorem dL_characters_41 : decode cL_characters 41 = .ok (.iaload, 1) := by decide +kernel
theorem dL_characters_42 : decode cL_characters 42 = .ok (.iload_n 3, 1) := by decide +kernel
theorem dL_characters_43 : decode cL_characters 43 = .ok (.iastore, 1) := by decide +kernel
theorem dL_characters_44 : decode cL_characters 44 = .ok (.iinc 3 1, 3) := by decide +kernel
theorem dL_characters_47 : decode cL_characters 47 = .ok (.goto (-36), 3) := by decide +kernel
theorem dL_characters_50 : decode cL_characters 50 = .ok (.aload_n 1, 1) := by decide +kernel
theorem dL_characters_51 : decode cL_characters 51 = .ok (.areturn, 1) := by decide +kernel
set_option maxRecDepth 20000 in
theorem ggL_act_L_below : GoodIn wsL_act wsL_below := goodIn_r _ [10, 11] (by decide +kernel) (by decide +kernel)
set_option maxRecDepth 20000 in
theorem gL_act_L_below : GoodIn wsL_act (va_wsS RL 25 yL_below wsL_below) := goodIn_app (goodIn_of _ (by decide +kernel)) ggL_act_L_below
set_option maxRecDepth 20000 in
theorem ggL_act_X3_setLine : GoodIn wsL_act wsX3_setLine := goodIn_ca (goodIn_ca (goodIn_r _ [16, 17, 18, 19, 20, 21, 22, 23, 15, 24, 25, 26, 27, 28, 29, 30, 31, 32, 33, 34, 35, 36, 37, 38, 39, 40, 41, 42, 43, 44, 45, 46, 47, 48, 49, 50, 248, 249, 250, 251, 252, 253, 254, 255, 256, 257, 258, 259, 260, 261, 262] (by decide +kernel) (by decide +kernel)) (goodIn_sub (fun _ h => List.mem_cons_of_mem _ (List.mem_append_left _ (List.mem_append_left _ (List.mem_append_right _ h)))) (by decide +kernel))) (goodIn_sub (fun _ h => List.mem_cons_of_mem _ (List.mem_append_left _ (List.mem_append_right _ h))) (by decide +kernel))
set_option maxRecDepth 20000 in
theorem gL_act_X3_setLine : GoodIn wsL_act (wsV RL 35 RX3 yX3_setLine wsX3_setLine) := goodIn_app (goodIn_of _ (by decide +kernel)) ggL_act_X3_setLine
set_option maxRecDepth 20000 in
theorem ggL_act_X3_setPlay : GoodIn wsL_act wsX3_setPlay := goodIn_ca (goodIn_r _ [54, 19, 20, 21, 55, 56, 57, 28, 58, 59, 60, 61, 62, 63, 248, 249, 250, 251, 252, 253, 254, 255, 256, 257, 258, 259, 260] (by decide +kernel) (by decide +kernel)) (goodIn_sub (fun _ h => List.mem_cons_of_mem _ (List.mem_append_left _ (List.mem_append_right _ h))) (by decide +kernel))
set_option maxRecDepth 20000 in
theorem gL_act_X3_setPlay : GoodIn wsL_act (wsV RL 45 RX3 yX3_setPlay wsX3_setPlay) := goodIn_app (goodIn_of _ (by decide +kernel)) ggL_act_X3_setPlay
set_option maxRecDepth 20000 in
theorem ggL_act_X3_setUnshift : GoodIn wsL_act wsX3_setUnshift := goodIn_r _ [67, 68, 248, 249, 250, 251, 252, 253, 254, 255, 256, 257] (by decide +kernel) (by decide +kernel)
set_option maxRecDepth 20000 in
theorem gL_act_X3_setUnshift : GoodIn wsL_act (wsV RL 53 RX3 yX3_setUnshift wsX3_setUnshift) := goodIn_app (goodIn_of _ (by decide +kernel)) ggL_act_X3_setUnshift
set_option maxRecDepth 20000 in
theorem ggL_act_X3_receive : GoodIn wsL_act wsX3_receive := goodIn_ca (goodIn_r _ [72, 17, 18, 22, 23, 15, 24, 73, 74, 75, 76, 21, 77, 78, 79, 80, 81, 28, 82, 46, 30, 59, 31, 32, 33, 34, 35, 36, 37, 38, 39, 40, 41, 83, 84, 85, 86, 87, 88, 89, 90, 91, 92, 93, 94, 95, 96, 97, 98, 99, 100, 101, 102, 103, 104, 105, 106, 107, 108, 109, 110, 111, 112, 113, 114, 115, 116, 117, 118, 119, 120, 121, 122, 123, 124, 125, 126, 127, 128, 129, 130, 131, 132, 68, 248, 249, 250, 251, 252, 253, 254, 255, 256, 257, 258, 259, 260, 261, 262, 263, 264, 265] (by decide +kernel) (by decide +kernel)) (goodIn_sub (fun _ h => List.mem_cons_of_mem _ (List.mem_append_left _ (List.mem_append_left _ (List.mem_append_right _ h)))) (by decide +kernel))
set_option maxRecDepth 20000 in
theorem gL_act_X3_receive : GoodIn wsL_act (wsV RL 57 RX3 yX3_receive wsX3_receive) := goodIn_app (goodIn_of _ (by decide +kernel)) ggL_act_X3_receive
set_option maxRecDepth 20000 in
theorem ggL_act_X4_come : GoodIn wsL_act wsX4_come := goodIn_r _ [137, 138, 139, 140, 141, 142, 143, 144, 145, 146, 147, 148, 149, 150, 136, 151, 152, 153, 154, 155, 156, 157, 158, 159, 160, 161, 162, 163, 234, 235, 236, 237, 238, 239, 240, 241, 242, 243, 244, 245, 246, 247] (by decide +kernel) (by decide +kernel)
set_option maxRecDepth 20000 in
theorem gL_act_X4_come : GoodIn wsL_act (wsV RL 60 RX4 yX4_come wsX4_come) := goodIn_app (goodIn_of _ (by decide +kernel)) ggL_act_X4_come
set_option maxRecDepth 20000 in
theorem ggL_act_X4_more : GoodIn wsL_act wsX4_more := goodIn_r _ [158, 143] (by decide +kernel) (by decide +kernel)
set_option maxRecDepth 20000 in
theorem gL_act_X4_more : GoodIn wsL_act (va_wsS RL 63 yX4_more wsX4_more) := goodIn_app (goodIn_of _ (by decide +kernel)) ggL_act_X4_more
set_option maxRecDepth 20000 in
theorem ggL_act_X3_punch : GoodIn wsL_act wsX3_punch := goodIn_ca (goodIn_ca (goodIn_r _ [168, 17, 18, 169, 170, 171, 22, 23, 15, 24, 172, 173, 174, 34, 175, 36, 41, 176, 122, 123, 124, 177, 178, 179, 180, 248, 249, 250, 251, 252, 253, 254, 255, 256, 257, 261, 262] (by decide +kernel) (by decide +kernel)) (goodIn_sub (fun _ h => List.mem_cons_of_mem _ (List.mem_append_left _ (List.mem_append_left _ (List.mem_append_right _ h)))) (by decide +kernel))) (goodIn_sub (fun _ h => List.mem_cons_of_mem _ (List.mem_append_right _ h)) (by decide +kernel))
set_option maxRecDepth 20000 in
theorem gL_act_X3_punch : GoodIn wsL_act (wsV RL 67 RX3 yX3_punch wsX3_punch) := goodIn_app (goodIn_of _ (by decide +kernel)) ggL_act_X3_punch
set_option maxRecDepth 20000 in
theorem ggL_act_X4_shifts : GoodIn wsL_act wsX4_shifts := goodIn_r _ [184, 185, 152, 159, 160, 161, 136, 162, 163, 234, 235, 236, 237, 238, 239, 240, 241, 242, 243, 244, 245, 246, 247] (by decide +kernel) (by decide +kernel)
set_option maxRecDepth 20000 in
theorem gL_act_X4_shifts : GoodIn wsL_act (wsV RL 70 RX4 yX4_shifts wsX4_shifts) := goodIn_app (goodIn_of _ (by decide +kernel)) ggL_act_X4_shifts
set_option maxRecDepth 20000 in
theorem ggL_act_L_codes : GoodIn wsL_act wsL_codes := goodIn_r _ [188, 143, 189, 190, 9, 191] (by decide +kernel) (by decide +kernel)
set_option maxRecDepth 20000 in
theorem gL_act_L_codes : GoodIn wsL_act (va_wsS RL 15 yL_codes wsL_codes) := goodIn_app (goodIn_of _ (by decide +kernel)) ggL_act_L_codes
set_option maxRecDepth 20000 in
theorem ggL_act_X3_type : GoodIn wsL_act wsX3_type := goodIn_ca (goodIn_ca (goodIn_r _ [195, 17, 18, 169, 170, 171, 196, 197, 15, 198, 199, 200, 201, 202, 203, 204, 205, 98, 99, 100, 94, 95, 96, 97, 206, 207, 208, 209, 177, 178, 179, 34, 180, 41, 210, 211, 212, 213, 214, 32, 33, 35, 36, 37, 38, 39, 40, 125, 126, 127, 128, 129, 130, 131, 132, 68, 172, 173, 174, 175, 176, 122, 123, 124, 248, 249, 250, 251, 252, 253, 254, 255, 256, 257, 261, 262] (by decide +kernel) (by decide +kernel)) (goodIn_sub (fun _ h => List.mem_cons_of_mem _ (List.mem_append_left _ (List.mem_append_left _ (List.mem_append_right _ h)))) (by decide +kernel))) (goodIn_sub (fun _ h => List.mem_cons_of_mem _ (List.mem_append_right _ h)) (by decide +kernel))
set_option maxRecDepth 20000 in
theorem gL_act_X3_type : GoodIn wsL_act (wsV RL 74 RX3 yX3_type wsX3_type) := goodIn_app (goodIn_of _ (by decide +kernel)) ggL_act_X3_type
set_option maxRecDepth 20000 in
theorem ggL_act_X3_rub : GoodIn wsL_act wsX3_rub := goodIn_ca (goodIn_r _ [218, 17, 18, 171, 219, 38, 39, 34, 40, 41, 36, 214, 32, 33, 35, 37, 220, 48, 49, 50, 248, 249, 250, 251, 252, 253, 254, 255, 256, 257, 261, 262] (by decide +kernel) (by decide +kernel)) (goodIn_sub (fun _ h => List.mem_cons_of_mem _ (List.mem_append_left _ (List.mem_append_left _ (List.mem_append_right _ h)))) (by decide +kernel))
set_option maxRecDepth 20000 in
theorem gL_act_X3_rub : GoodIn wsL_act (wsV RL 77 RX3 yX3_rub wsX3_rub) := goodIn_app (goodIn_of _ (by decide +kernel)) ggL_act_X3_rub
set_option maxRecDepth 20000 in
theorem ggL_act_X3_wind : GoodIn wsL_act wsX3_wind := goodIn_ca (goodIn_r _ [224, 17, 18, 171, 225, 177, 178, 179, 34, 180, 41, 248, 249, 250, 251, 252, 253, 254, 255, 256, 257, 261, 262] (by decide +kernel) (by decide +kernel)) (goodIn_sub (fun _ h => List.mem_cons_of_mem _ (List.mem_append_left _ (List.mem_append_left _ (List.mem_append_right _ h)))) (by decide +kernel))
set_option maxRecDepth 20000 in
theorem gL_act_X3_wind : GoodIn wsL_act (wsV RL 83 RX3 yX3_wind wsX3_wind) := goodIn_app (goodIn_of _ (by decide +kernel)) ggL_act_X3_wind
set_option maxRecDepth 20000 in
theorem ggL_act_X3_run : GoodIn wsL_act wsX3_run := goodIn_ca (goodIn_r _ [229, 19, 20, 171, 225, 230, 231, 232, 233, 177, 178, 179, 34, 180, 41, 214, 32, 33, 35, 36, 37, 38, 39, 40, 73, 74, 75, 15, 76, 21, 77, 78, 79, 80, 81, 28, 82, 46, 30, 59, 31, 83, 84, 85, 86, 87, 88, 89, 90, 91, 92, 93, 94, 95, 96, 97, 98, 99, 100, 101, 102, 103, 104, 105, 106, 107, 108, 109, 110, 111, 112, 113, 114, 115, 116, 117, 118, 119, 120, 121, 122, 123, 124, 125, 126, 127, 128, 129, 130, 131, 132, 68, 248, 249, 250, 251, 252, 253, 254, 255, 256, 257, 261, 262, 258, 259, 260, 263, 264, 265] (by decide +kernel) (by decide +kernel)) (goodIn_sub (fun _ h => List.mem_cons_of_mem _ (List.mem_append_left _ (List.mem_append_right _ h))) (by decide +kernel))
set_option maxRecDepth 20000 in
theorem gL_act_X3_run : GoodIn wsL_act (wsV RL 86 RX3 yX3_run wsX3_run) := goodIn_app (goodIn_of _ (by decide +kernel)) ggL_act_X3_run
theorem dL_act_0 : decode cL_act 0 = .ok (.aload_n 1, 1) := by decide +kernel
theorem dL_act_1 : decode cL_act 1 = .ok (.getfield 19, 3) := by decide +kernel
theorem dL_act_4 : decode cL_act 4 = .ok (.arraylength, 1) := by decide +kernel
theorem dL_act_5 : decode cL_act 5 = .ok (.istore_n 3, 1) := by decide +kernel
theorem dL_act_6 : decode cL_act 6 = .ok (.iload_n 2, 1) := by decide +kernel
theorem dL_act_7 : decode cL_act 7 = .ok (.iconst 2, 1) := by decide +kernel
theorem dL_act_8 : decode cL_act 8 = .ok (.ishr, 1) := by decide +kernel
theorem dL_act_9 : decode cL_act 9 = .ok (.bipush 32, 2) := by decide +kernel
theorem dL_act_11 : decode cL_act 11 = .ok (.invokestatic 25, 3) := by decide +kernel
theorem dL_act_14 : decode cL_act 14 = .ok (.istore 4, 2) := by decide +kernel
theorem dL_act_16 : decode cL_act 16 = .ok (.iload_n 2, 1) := by decide +kernel
theorem dL_act_17 : decode cL_act 17 = .ok (.bipush 9, 2) := by decide +kernel
theorem dL_act_19 : decode cL_act 19 = .ok (.ishr, 1) := by decide +kernel
theorem dL_act_20 : decode cL_act 20 = .ok (.bipush 18, 2) := by decide +kernel
theorem dL_act_22 : decode cL_act 22 = .ok (.invokestatic 25, 3) := by decide +kernel
theorem dL_act_25 : decode cL_act 25 = .ok (.tableswitch 576 0 13 #[71, 165, 202, 244, 244, 244, 293, 293, 332, 332, 332, 332, 474, 538], 71) := by decide +kernel
theorem dL_act_96 : decode cL_act 96 = .ok (.iload_n 2, 1) := by decide +kernel
theorem dL_act_97 : decode cL_act 97 = .ok (.bipush 16, 2) := by decide +kernel
theorem dL_act_99 : decode cL_act 99 = .ok (.invokestatic 25, 3) := by decide +kernel
theorem dL_act_102 : decode cL_act 102 = .ok (.istore 5, 2) := by decide +kernel
theorem dL_act_104 : decode cL_act 104 = .ok (.aload_n 1, 1) := by decide +kernel
theorem dL_act_105 : decode cL_act 105 = .ok (.getfield 29, 3) := by decide +kernel
theorem dL_act_108 : decode cL_act 108 = .ok (.iload 5, 2) := by decide +kernel
theorem dL_act_110 : decode cL_act 110 = .ok (.iaload, 1) := by decide +kernel
theorem dL_act_111 : decode cL_act 111 = .ok (.istore 6, 2) := by decide +kernel
theorem dL_act_113 : decode cL_act 113 = .ok (.aload_n 1, 1) := by decide +kernel
theorem dL_act_114 : decode cL_act 114 = .ok (.getfield 29, 3) := by decide +kernel
theorem dL_act_117 : decode cL_act 117 = .ok (.iload 5, 2) := by decide +kernel
theorem dL_act_119 : decode cL_act 119 = .ok (.iload_n 2, 1) := by decide +kernel
theorem dL_act_120 : decode cL_act 120 = .ok (.iconst 4, 1) := by decide +kernel
theorem dL_act_121 : decode cL_act 121 = .ok (.ishr, 1) := by decide +kernel
theorem dL_act_122 : decode cL_act 122 = .ok (.bipush 19, 2) := by decide +kernel
theorem dL_act_124 : decode cL_act 124 = .ok (.invokestatic 25, 3) := by decide +kernel
theorem dL_act_127 : decode cL_act 127 = .ok (.bipush 9, 2) := by decide +kernel
theorem dL_act_129 : decode cL_act 129 = .ok (.isub, 1) := by decide +kernel
theorem dL_act_130 : decode cL_act 130 = .ok (.iastore, 1) := by decide +kernel
theorem dL_act_131 : decode cL_act 131 = .ok (.aload_n 1, 1) := by decide +kernel
theorem dL_act_132 : decode cL_act 132 = .ok (.getfield 32, 3) := by decide +kernel
theorem dL_act_135 : decode cL_act 135 = .ok (.iload 5, 2) := by decide +kernel
theorem dL_act_137 : decode cL_act 137 = .ok (.iload_n 2, 1) := by decide +kernel
theorem dL_act_138 : decode cL_act 138 = .ok (.bipush 6, 2) := by decide +kernel
theorem dL_act_140 : decode cL_act 140 = .ok (.ishr, 1) := by decide +kernel
theorem dL_act_141 : decode cL_act 141 = .ok (.iconst 3, 1) := by decide +kernel
theorem dL_act_142 : decode cL_act 142 = .ok (.invokestatic 25, 3) := by decide +kernel
theorem dL_act_145 : decode cL_act 145 = .ok (.ifCond .ne 12, 3) := by decide +kernel
theorem dL_act_148 : decode cL_act 148 = .ok (.iload_n 2, 1) := by decide +kernel
theorem dL_act_149 : decode cL_act 149 = .ok (.bipush 32, 2) := by decide +kernel
theorem dL_act_151 : decode cL_act 151 = .ok (.invokestatic 25, 3) := by decide +kernel
theorem dL_act_154 : decode cL_act 154 = .ok (.goto 4, 3) := by decide +kernel
theorem dL_act_157 : decode cL_act 157 = .ok (.iconst 0, 1) := by decide +kernel
theorem dL_act_158 : decode cL_act 158 = .ok (.iastore, 1) := by decide +kernel
theorem dL_act_159 : decode cL_act 159 = .ok (.aload_n 0, 1) := by decide +kernel
theorem dL_act_160 : decode cL_act 160 = .ok (.iload 5, 2) := by decide +kernel
theorem dL_act_162 : decode cL_act 162 = .ok (.aload_n 1, 1) := by decide +kernel
theorem dL_act_163 : decode cL_act 163 = .ok (.getfield 29, 3) := by decide +kernel
theorem dL_act_166 : decode cL_act 166 = .ok (.iload 5, 2) := by decide +kernel
theorem dL_act_168 : decode cL_act 168 = .ok (.iaload, 1) := by decide +kernel
theorem dL_act_169 : decode cL_act 169 = .ok (.aload_n 1, 1) := by decide +kernel
theorem dL_act_170 : decode cL_act 170 = .ok (.getfield 32, 3) := by decide +kernel
theorem dL_act_173 : decode cL_act 173 = .ok (.iload 5, 2) := by decide +kernel
theorem dL_act_175 : decode cL_act 175 = .ok (.iaload, 1) := by decide +kernel
theorem dL_act_176 : decode cL_act 176 = .ok (.invokevirtual 35, 3) := by decide +kernel
theorem dL_act_179 : decode cL_act 179 = .ok (.iload 6, 2) := by decide +kernel
theorem dL_act_181 : decode cL_act 181 = .ok (.if_icmp .ne 7, 3) := by decide +kernel
theorem dL_act_184 : decode cL_act 184 = .ok (.iconst 1, 1) := by decide +kernel
theorem dL_act_185 : decode cL_act 185 = .ok (.goto 4, 3) := by decide +kernel
theorem dL_act_188 : decode cL_act 188 = .ok (.iconst 0, 1) := by decide +kernel
theorem dL_act_189 : decode cL_act 189 = .ok (.ireturn, 1) := by decide +kernel
theorem dL_act_190 : decode cL_act 190 = .ok (.aload_n 1, 1) := by decide +kernel
theorem dL_act_191 : decode cL_act 191 = .ok (.getfield 41, 3) := by decide +kernel
theorem dL_act_194 : decode cL_act 194 = .ok (.istore 7, 2) := by decide +kernel
theorem dL_act_196 : decode cL_act 196 = .ok (.aload_n 1, 1) := by decide +kernel
theorem dL_act_197 : decode cL_act 197 = .ok (.iload_n 2, 1) := by decide +kernel
theorem dL_act_198 : decode cL_act 198 = .ok (.iconst 1, 1) := by decide +kernel
theorem dL_act_199 : decode cL_act 199 = .ok (.ishr, 1) := by decide +kernel
theorem dL_act_200 : decode cL_act 200 = .ok (.bipush 10, 2) := by decide +kernel
theorem dL_act_202 : decode cL_act 202 = .ok (.invokestatic 25, 3) := by decide +kernel
theorem dL_act_205 : decode cL_act 205 = .ok (.putfield 41, 3) := by decide +kernel
theorem dL_act_208 : decode cL_act 208 = .ok (.aload_n 0, 1) := by decide +kernel
theorem dL_act_209 : decode cL_act 209 = .ok (.aload_n 1, 1) := by decide +kernel
theorem dL_act_210 : decode cL_act 210 = .ok (.getfield 41, 3) := by decide +kernel
theorem dL_act_213 : decode cL_act 213 = .ok (.invokevirtual 45, 3) := by decide +kernel
theorem dL_act_216 : decode cL_act 216 = .ok (.iload 7, 2) := by decide +kernel
theorem dL_act_218 : decode cL_act 218 = .ok (.if_icmp .ne 7, 3) := by decide +kernel
theorem dL_act_221 : decode cL_act 221 = .ok (.iconst 1, 1) := by decide +kernel
theorem dL_act_222 : decode cL_act 222 = .ok (.goto 4, 3) := by decide +kernel
theorem dL_act_225 : decode cL_act 225 = .ok (.iconst 0, 1) := by decide +kernel
theorem dL_act_226 : decode cL_act 226 = .ok (.ireturn, 1) := by decide +kernel
theorem dL_act_227 : decode cL_act 227 = .ok (.aload_n 1, 1) := by decide +kernel
theorem dL_act_228 : decode cL_act 228 = .ok (.getfield 49, 3) := by decide +kernel
theorem dL_act_231 : decode cL_act 231 = .ok (.istore 8, 2) := by decide +kernel
theorem dL_act_233 : decode cL_act 233 = .ok (.aload_n 1, 1) := by decide +kernel
theorem dL_act_234 : decode cL_act 234 = .ok (.iload_n 2, 1) := by decide +kernel
theorem dL_act_235 : decode cL_act 235 = .ok (.iconst 2, 1) := by decide +kernel
theorem dL_act_236 : decode cL_act 236 = .ok (.invokestatic 25, 3) := by decide +kernel
theorem dL_act_239 : decode cL_act 239 = .ok (.ifCond .ne 7, 3) := by decide +kernel
theorem dL_act_242 : decode cL_act 242 = .ok (.iconst 1, 1) := by decide +kernel
theorem dL_act_243 : decode cL_act 243 = .ok (.goto 4, 3) := by decide +kernel
theorem dL_act_246 : decode cL_act 246 = .ok (.iconst 0, 1) := by decide +kernel
theorem dL_act_247 : decode cL_act 247 = .ok (.putfield 49, 3) := by decide +kernel
theorem dL_act_250 : decode cL_act 250 = .ok (.aload_n 0, 1) := by decide +kernel
theorem dL_act_251 : decode cL_act 251 = .ok (.aload_n 1, 1) := by decide +kernel
theorem dL_act_252 : decode cL_act 252 = .ok (.getfield 49, 3) := by decide +kernel
theorem dL_act_255 : decode cL_act 255 = .ok (.invokevirtual 53, 3) := by decide +kernel
theorem dL_act_258 : decode cL_act 258 = .ok (.iload 8, 2) := by decide +kernel
theorem dL_act_260 : decode cL_act 260 = .ok (.if_icmp .ne 7, 3) := by decide +kernel
theorem dL_act_263 : decode cL_act 263 = .ok (.iconst 1, 1) := by decide +kernel
theorem dL_act_264 : decode cL_act 264 = .ok (.goto 4, 3) := by decide +kernel
theorem dL_act_267 : decode cL_act 267 = .ok (.iconst 0, 1) := by decide +kernel
theorem dL_act_268 : decode cL_act 268 = .ok (.ireturn, 1) := by decide +kernel
theorem dL_act_269 : decode cL_act 269 = .ok (.iload_n 2, 1) := by decide +kernel
theorem dL_act_270 : decode cL_act 270 = .ok (.bipush 7, 2) := by decide +kernel
theorem dL_act_272 : decode cL_act 272 = .ok (.ishr, 1) := by decide +kernel
theorem dL_act_273 : decode cL_act 273 = .ok (.iconst 4, 1) := by decide +kernel
theorem dL_act_274 : decode cL_act 274 = .ok (.invokestatic 25, 3) := by decide +kernel
theorem dL_act_277 : decode cL_act 277 = .ok (.ifCond .ne 16, 3) := by decide +kernel
theorem dL_act_280 : decode cL_act 280 = .ok (.bipush 27, 2) := by decide +kernel
theorem dL_act_282 : decode cL_act 282 = .ok (.iconst 4, 1) := by decide +kernel
theorem dL_act_283 : decode cL_act 283 = .ok (.iload_n 2, 1) := by decide +kernel
theorem dL_act_284 : decode cL_act 284 = .ok (.iconst 2, 1) := by decide +kernel
theorem dL_act_285 : decode cL_act 285 = .ok (.invokestatic 25, 3) := by decide +kernel
theorem dL_act_288 : decode cL_act 288 = .ok (.imul, 1) := by decide +kernel
theorem dL_act_289 : decode cL_act 289 = .ok (.iadd, 1) := by decide +kernel
theorem dL_act_290 : decode cL_act 290 = .ok (.goto 5, 3) := by decide +kernel
theorem dL_act_293 : decode cL_act 293 = .ok (.iload 4, 2) := by decide +kernel
theorem dL_act_295 : decode cL_act 295 = .ok (.istore 9, 2) := by decide +kernel
theorem dL_act_297 : decode cL_act 297 = .ok (.aload_n 0, 1) := by decide +kernel
theorem dL_act_298 : decode cL_act 298 = .ok (.iload 9, 2) := by decide +kernel
theorem dL_act_300 : decode cL_act 300 = .ok (.invokevirtual 57, 3) := by decide +kernel
theorem dL_act_303 : decode cL_act 303 = .ok (.aload_n 1, 1) := by decide +kernel
theorem dL_act_304 : decode cL_act 304 = .ok (.iload 9, 2) := by decide +kernel
theorem dL_act_306 : decode cL_act 306 = .ok (.invokevirtual 60, 3) := by decide +kernel
theorem dL_act_309 : decode cL_act 309 = .ok (.if_icmp .ne 7, 3) := by decide +kernel
theorem dL_act_312 : decode cL_act 312 = .ok (.iconst 1, 1) := by decide +kernel
theorem dL_act_313 : decode cL_act 313 = .ok (.goto 4, 3) := by decide +kernel
theorem dL_act_316 : decode cL_act 316 = .ok (.iconst 0, 1) := by decide +kernel
theorem dL_act_317 : decode cL_act 317 = .ok (.ireturn, 1) := by decide +kernel
theorem dL_act_318 : decode cL_act 318 = .ok (.iload_n 3, 1) := by decide +kernel
theorem dL_act_319 : decode cL_act 319 = .ok (.bipush 120, 2) := by decide +kernel
theorem dL_act_321 : decode cL_act 321 = .ok (.if_icmp .ne 5, 3) := by decide +kernel
theorem dL_act_324 : decode cL_act 324 = .ok (.iconst 1, 1) := by decide +kernel
theorem dL_act_325 : decode cL_act 325 = .ok (.ireturn, 1) := by decide +kernel
theorem dL_act_326 : decode cL_act 326 = .ok (.aload_n 1, 1) := by decide +kernel
theorem dL_act_327 : decode cL_act 327 = .ok (.aload_n 1, 1) := by decide +kernel
theorem dL_act_328 : decode cL_act 328 = .ok (.getfield 19, 3) := by decide +kernel
theorem dL_act_331 : decode cL_act 331 = .ok (.iload 4, 2) := by decide +kernel
theorem dL_act_333 : decode cL_act 333 = .ok (.invokestatic 63, 3) := by decide +kernel
theorem dL_act_336 : decode cL_act 336 = .ok (.putfield 19, 3) := by decide +kernel
theorem dL_act_339 : decode cL_act 339 = .ok (.aload_n 0, 1) := by decide +kernel
theorem dL_act_340 : decode cL_act 340 = .ok (.iload 4, 2) := by decide +kernel
theorem dL_act_342 : decode cL_act 342 = .ok (.invokevirtual 67, 3) := by decide +kernel
theorem dL_act_345 : decode cL_act 345 = .ok (.iload_n 3, 1) := by decide +kernel
theorem dL_act_346 : decode cL_act 346 = .ok (.iconst 1, 1) := by decide +kernel
theorem dL_act_347 : decode cL_act 347 = .ok (.iadd, 1) := by decide +kernel
theorem dL_act_348 : decode cL_act 348 = .ok (.if_icmp .ne 7, 3) := by decide +kernel
theorem dL_act_351 : decode cL_act 351 = .ok (.iconst 1, 1) := by decide +kernel
theorem dL_act_352 : decode cL_act 352 = .ok (.goto 4, 3) := by decide +kernel
theorem dL_act_355 : decode cL_act 355 = .ok (.iconst 0, 1) := by decide +kernel
theorem dL_act_356 : decode cL_act 356 = .ok (.ireturn, 1) := by decide +kernel
theorem dL_act_357 : decode cL_act 357 = .ok (.iconst 1, 1) := by decide +kernel
theorem dL_act_358 : decode cL_act 358 = .ok (.iload_n 2, 1) := by decide +kernel
theorem dL_act_359 : decode cL_act 359 = .ok (.iconst 1, 1) := by decide +kernel
theorem dL_act_360 : decode cL_act 360 = .ok (.ishr, 1) := by decide +kernel
theorem dL_act_361 : decode cL_act 361 = .ok (.bipush 54, 2) := by decide +kernel
theorem dL_act_363 : decode cL_act 363 = .ok (.invokestatic 25, 3) := by decide +kernel
theorem dL_act_366 : decode cL_act 366 = .ok (.iadd, 1) := by decide +kernel
theorem dL_act_367 : decode cL_act 367 = .ok (.istore 10, 2) := by decide +kernel
theorem dL_act_369 : decode cL_act 369 = .ok (.aload_n 1, 1) := by decide +kernel
theorem dL_act_370 : decode cL_act 370 = .ok (.invokevirtual 70, 3) := by decide +kernel
theorem dL_act_373 : decode cL_act 373 = .ok (.iload_n 3, 1) := by decide +kernel
theorem dL_act_374 : decode cL_act 374 = .ok (.baload, 1) := by decide +kernel
theorem dL_act_375 : decode cL_act 375 = .ok (.istore 11, 2) := by decide +kernel
theorem dL_act_377 : decode cL_act 377 = .ok (.iload 10, 2) := by decide +kernel
theorem dL_act_379 : decode cL_act 379 = .ok (.bipush 53, 2) := by decide +kernel
theorem dL_act_381 : decode cL_act 381 = .ok (.if_icmp .ge 24, 3) := by decide +kernel
theorem dL_act_384 : decode cL_act 384 = .ok (.iload 10, 2) := by decide +kernel
theorem dL_act_386 : decode cL_act 386 = .ok (.bipush 26, 2) := by decide +kernel
theorem dL_act_388 : decode cL_act 388 = .ok (.if_icmp .le 7, 3) := by decide +kernel
theorem dL_act_391 : decode cL_act 391 = .ok (.iconst 1, 1) := by decide +kernel
theorem dL_act_392 : decode cL_act 392 = .ok (.goto 4, 3) := by decide +kernel
theorem dL_act_395 : decode cL_act 395 = .ok (.iconst 0, 1) := by decide +kernel
theorem dL_act_396 : decode cL_act 396 = .ok (.iload 11, 2) := by decide +kernel
theorem dL_act_398 : decode cL_act 398 = .ok (.if_icmp .eq 7, 3) := by decide +kernel
theorem dL_act_401 : decode cL_act 401 = .ok (.iconst 1, 1) := by decide +kernel
theorem dL_act_402 : decode cL_act 402 = .ok (.goto 4, 3) := by decide +kernel
theorem dL_act_405 : decode cL_act 405 = .ok (.iconst 0, 1) := by decide +kernel
theorem dL_act_406 : decode cL_act 406 = .ok (.istore 12, 2) := by decide +kernel
theorem dL_act_408 : decode cL_act 408 = .ok (.iload_n 3, 1) := by decide +kernel
theorem dL_act_409 : decode cL_act 409 = .ok (.iload 12, 2) := by decide +kernel
theorem dL_act_411 : decode cL_act 411 = .ok (.ifCond .eq 7, 3) := by decide +kernel
theorem dL_act_414 : decode cL_act 414 = .ok (.iconst 2, 1) := by decide +kernel
theorem dL_act_415 : decode cL_act 415 = .ok (.goto 4, 3) := by decide +kernel
theorem dL_act_418 : decode cL_act 418 = .ok (.iconst 1, 1) := by decide +kernel
theorem dL_act_419 : decode cL_act 419 = .ok (.iadd, 1) := by decide +kernel
theorem dL_act_420 : decode cL_act 420 = .ok (.bipush 120, 2) := by decide +kernel
theorem dL_act_422 : decode cL_act 422 = .ok (.if_icmp .le 5, 3) := by decide +kernel
theorem dL_act_425 : decode cL_act 425 = .ok (.iconst 1, 1) := by decide +kernel
theorem dL_act_426 : decode cL_act 426 = .ok (.ireturn, 1) := by decide +kernel
theorem dL_act_427 : decode cL_act 427 = .ok (.iload 12, 2) := by decide +kernel
theorem dL_act_429 : decode cL_act 429 = .ok (.ifCond .eq 28, 3) := by decide +kernel
theorem dL_act_432 : decode cL_act 432 = .ok (.aload_n 1, 1) := by decide +kernel
theorem dL_act_433 : decode cL_act 433 = .ok (.aload_n 1, 1) := by decide +kernel
theorem dL_act_434 : decode cL_act 434 = .ok (.getfield 19, 3) := by decide +kernel
theorem dL_act_437 : decode cL_act 437 = .ok (.iload 10, 2) := by decide +kernel
theorem dL_act_439 : decode cL_act 439 = .ok (.bipush 26, 2) := by decide +kernel
theorem dL_act_441 : decode cL_act 441 = .ok (.if_icmp .le 8, 3) := by decide +kernel
theorem dL_act_444 : decode cL_act 444 = .ok (.bipush 27, 2) := by decide +kernel
theorem dL_act_446 : decode cL_act 446 = .ok (.goto 5, 3) := by decide +kernel
theorem dL_act_449 : decode cL_act 449 = .ok (.bipush 31, 2) := by decide +kernel
theorem dL_act_451 : decode cL_act 451 = .ok (.invokestatic 63, 3) := by decide +kernel
theorem dL_act_454 : decode cL_act 454 = .ok (.putfield 19, 3) := by decide +kernel
theorem dL_act_457 : decode cL_act 457 = .ok (.aload_n 1, 1) := by decide +kernel
theorem dL_act_458 : decode cL_act 458 = .ok (.aload_n 1, 1) := by decide +kernel
theorem dL_act_459 : decode cL_act 459 = .ok (.getfield 19, 3) := by decide +kernel
theorem dL_act_462 : decode cL_act 462 = .ok (.invokestatic 15, 3) := by decide +kernel
theorem dL_act_465 : decode cL_act 465 = .ok (.iload 10, 2) := by decide +kernel
theorem dL_act_467 : decode cL_act 467 = .ok (.iaload, 1) := by decide +kernel
theorem dL_act_468 : decode cL_act 468 = .ok (.invokestatic 63, 3) := by decide +kernel
theorem dL_act_471 : decode cL_act 471 = .ok (.putfield 19, 3) := by decide +kernel
theorem dL_act_474 : decode cL_act 474 = .ok (.aload_n 0, 1) := by decide +kernel
theorem dL_act_475 : decode cL_act 475 = .ok (.iload 10, 2) := by decide +kernel
theorem dL_act_477 : decode cL_act 477 = .ok (.invokevirtual 74, 3) := by decide +kernel
theorem dL_act_480 : decode cL_act 480 = .ok (.iload 12, 2) := by decide +kernel
theorem dL_act_482 : decode cL_act 482 = .ok (.ifCond .eq 7, 3) := by decide +kernel
theorem dL_act_485 : decode cL_act 485 = .ok (.iconst 2, 1) := by decide +kernel
theorem dL_act_486 : decode cL_act 486 = .ok (.goto 4, 3) := by decide +kernel
theorem dL_act_489 : decode cL_act 489 = .ok (.iconst 1, 1) := by decide +kernel
theorem dL_act_490 : decode cL_act 490 = .ok (.if_icmp .ne 7, 3) := by decide +kernel
theorem dL_act_493 : decode cL_act 493 = .ok (.iconst 1, 1) := by decide +kernel
theorem dL_act_494 : decode cL_act 494 = .ok (.goto 4, 3) := by decide +kernel
theorem dL_act_497 : decode cL_act 497 = .ok (.iconst 0, 1) := by decide +kernel
theorem dL_act_498 : decode cL_act 498 = .ok (.ireturn, 1) := by decide +kernel
theorem dL_act_499 : decode cL_act 499 = .ok (.iload_n 3, 1) := by decide +kernel
theorem dL_act_500 : decode cL_act 500 = .ok (.ifCond .eq 11, 3) := by decide +kernel
theorem dL_act_503 : decode cL_act 503 = .ok (.iload_n 2, 1) := by decide +kernel
theorem dL_act_504 : decode cL_act 504 = .ok (.iconst 3, 1) := by decide +kernel
theorem dL_act_505 : decode cL_act 505 = .ok (.invokestatic 25, 3) := by decide +kernel
theorem dL_act_508 : decode cL_act 508 = .ok (.ifCond .le 5, 3) := by decide +kernel
theorem dL_act_511 : decode cL_act 511 = .ok (.iconst 1, 1) := by decide +kernel
theorem dL_act_512 : decode cL_act 512 = .ok (.ireturn, 1) := by decide +kernel
theorem dL_act_513 : decode cL_act 513 = .ok (.aload_n 1, 1) := by decide +kernel
theorem dL_act_514 : decode cL_act 514 = .ok (.getfield 19, 3) := by decide +kernel
theorem dL_act_517 : decode cL_act 517 = .ok (.iload_n 2, 1) := by decide +kernel
theorem dL_act_518 : decode cL_act 518 = .ok (.iconst 3, 1) := by decide +kernel
theorem dL_act_519 : decode cL_act 519 = .ok (.ishr, 1) := by decide +kernel
theorem dL_act_520 : decode cL_act 520 = .ok (.iload_n 3, 1) := by decide +kernel
theorem dL_act_521 : decode cL_act 521 = .ok (.invokestatic 25, 3) := by decide +kernel
theorem dL_act_524 : decode cL_act 524 = .ok (.iaload, 1) := by decide +kernel
theorem dL_act_525 : decode cL_act 525 = .ok (.istore 13, 2) := by decide +kernel
theorem dL_act_527 : decode cL_act 527 = .ok (.aload_n 1, 1) := by decide +kernel
theorem dL_act_528 : decode cL_act 528 = .ok (.getfield 19, 3) := by decide +kernel
theorem dL_act_531 : decode cL_act 531 = .ok (.iload_n 2, 1) := by decide +kernel
theorem dL_act_532 : decode cL_act 532 = .ok (.iconst 3, 1) := by decide +kernel
theorem dL_act_533 : decode cL_act 533 = .ok (.ishr, 1) := by decide +kernel
theorem dL_act_534 : decode cL_act 534 = .ok (.iload_n 3, 1) := by decide +kernel
theorem dL_act_535 : decode cL_act 535 = .ok (.invokestatic 25, 3) := by decide +kernel
theorem dL_act_538 : decode cL_act 538 = .ok (.bipush 31, 2) := by decide +kernel
theorem dL_act_540 : decode cL_act 540 = .ok (.iastore, 1) := by decide +kernel
theorem dL_act_541 : decode cL_act 541 = .ok (.aload_n 0, 1) := by decide +kernel
theorem dL_act_542 : decode cL_act 542 = .ok (.iload_n 2, 1) := by decide +kernel
theorem dL_act_543 : decode cL_act 543 = .ok (.iconst 3, 1) := by decide +kernel
theorem dL_act_544 : decode cL_act 544 = .ok (.ishr, 1) := by decide +kernel
theorem dL_act_545 : decode cL_act 545 = .ok (.iload_n 3, 1) := by decide +kernel
theorem dL_act_546 : decode cL_act 546 = .ok (.invokestatic 25, 3) := by decide +kernel
theorem dL_act_549 : decode cL_act 549 = .ok (.invokevirtual 77, 3) := by decide +kernel
theorem dL_act_552 : decode cL_act 552 = .ok (.iload 13, 2) := by decide +kernel
theorem dL_act_554 : decode cL_act 554 = .ok (.if_icmp .ne 7, 3) := by decide +kernel
theorem dL_act_557 : decode cL_act 557 = .ok (.iconst 1, 1) := by decide +kernel
theorem dL_act_558 : decode cL_act 558 = .ok (.goto 4, 3) := by decide +kernel
theorem dL_act_561 : decode cL_act 561 = .ok (.iconst 0, 1) := by decide +kernel
theorem dL_act_562 : decode cL_act 562 = .ok (.ireturn, 1) := by decide +kernel
theorem dL_act_563 : decode cL_act 563 = .ok (.aload_n 1, 1) := by decide +kernel
theorem dL_act_564 : decode cL_act 564 = .ok (.getfield 80, 3) := by decide +kernel
theorem dL_act_567 : decode cL_act 567 = .ok (.istore 14, 2) := by decide +kernel
theorem dL_act_569 : decode cL_act 569 = .ok (.aload_n 1, 1) := by decide +kernel
theorem dL_act_570 : decode cL_act 570 = .ok (.iload_n 2, 1) := by decide +kernel
theorem dL_act_571 : decode cL_act 571 = .ok (.iconst 1, 1) := by decide +kernel
theorem dL_act_572 : decode cL_act 572 = .ok (.ishr, 1) := by decide +kernel
theorem dL_act_573 : decode cL_act 573 = .ok (.iload_n 3, 1) := by decide +kernel
theorem dL_act_574 : decode cL_act 574 = .ok (.iconst 1, 1) := by decide +kernel
theorem dL_act_575 : decode cL_act 575 = .ok (.iadd, 1) := by decide +kernel
theorem dL_act_576 : decode cL_act 576 = .ok (.invokestatic 25, 3) := by decide +kernel
theorem dL_act_579 : decode cL_act 579 = .ok (.putfield 80, 3) := by decide +kernel
theorem dL_act_582 : decode cL_act 582 = .ok (.aload_n 0, 1) := by decide +kernel
theorem dL_act_583 : decode cL_act 583 = .ok (.aload_n 1, 1) := by decide +kernel
theorem dL_act_584 : decode cL_act 584 = .ok (.getfield 80, 3) := by decide +kernel
theorem dL_act_587 : decode cL_act 587 = .ok (.invokevirtual 83, 3) := by decide +kernel
theorem dL_act_590 : decode cL_act 590 = .ok (.iload 14, 2) := by decide +kernel
theorem dL_act_592 : decode cL_act 592 = .ok (.if_icmp .ne 7, 3) := by decide +kernel
theorem dL_act_595 : decode cL_act 595 = .ok (.iconst 1, 1) := by decide +kernel
theorem dL_act_596 : decode cL_act 596 = .ok (.goto 4, 3) := by decide +kernel
theorem dL_act_599 : decode cL_act 599 = .ok (.iconst 0, 1) := by decide +kernel
theorem dL_act_600 : decode cL_act 600 = .ok (.ireturn, 1) := by decide +kernel
theorem dL_act_601 : decode cL_act 601 = .ok (.iconst 1, 1) := by decide +kernel
theorem dL_act_602 : decode cL_act 602 = .ok (.iload_n 2, 1) := by decide +kernel
theorem dL_act_603 : decode cL_act 603 = .ok (.iconst 1, 1) := by decide +kernel
theorem dL_act_604 : decode cL_act 604 = .ok (.ishr, 1) := by decide +kernel
theorem dL_act_605 : decode cL_act 605 = .ok (.iload_n 2, 1) := by decide +kernel
theorem dL_act_606 : decode cL_act 606 = .ok (.bipush 6, 2) := by decide +kernel
theorem dL_act_608 : decode cL_act 608 = .ok (.ishr, 1) := by decide +kernel
theorem dL_act_609 : decode cL_act 609 = .ok (.iconst 2, 1) := by decide +kernel
theorem dL_act_610 : decode cL_act 610 = .ok (.invokestatic 25, 3) := by decide +kernel
theorem dL_act_613 : decode cL_act 613 = .ok (.ifCond .ne 8, 3) := by decide +kernel
theorem dL_act_616 : decode cL_act 616 = .ok (.bipush 120, 2) := by decide +kernel
theorem dL_act_618 : decode cL_act 618 = .ok (.goto 5, 3) := by decide +kernel
theorem dL_act_621 : decode cL_act 621 = .ok (.bipush 9, 2) := by decide +kernel
theorem dL_act_623 : decode cL_act 623 = .ok (.invokestatic 25, 3) := by decide +kernel
theorem dL_act_626 : decode cL_act 626 = .ok (.iadd, 1) := by decide +kernel
theorem dL_act_627 : decode cL_act 627 = .ok (.istore 15, 2) := by decide +kernel
theorem dL_act_629 : decode cL_act 629 = .ok (.iconst 0, 1) := by decide +kernel
theorem dL_act_630 : decode cL_act 630 = .ok (.istore 16, 2) := by decide +kernel
theorem dL_act_632 : decode cL_act 632 = .ok (.iload 16, 2) := by decide +kernel
theorem dL_act_634 : decode cL_act 634 = .ok (.iload 15, 2) := by decide +kernel
theorem dL_act_636 : decode cL_act 636 = .ok (.if_icmp .ge 41, 3) := by decide +kernel
theorem dL_act_639 : decode cL_act 639 = .ok (.aload_n 1, 1) := by decide +kernel
theorem dL_act_640 : decode cL_act 640 = .ok (.getfield 80, 3) := by decide +kernel
theorem dL_act_643 : decode cL_act 643 = .ok (.iload_n 3, 1) := by decide +kernel
theorem dL_act_644 : decode cL_act 644 = .ok (.if_icmp .ge 33, 3) := by decide +kernel
theorem dL_act_647 : decode cL_act 647 = .ok (.aload_n 1, 1) := by decide +kernel
theorem dL_act_648 : decode cL_act 648 = .ok (.aload_n 1, 1) := by decide +kernel
theorem dL_act_649 : decode cL_act 649 = .ok (.getfield 19, 3) := by decide +kernel
theorem dL_act_652 : decode cL_act 652 = .ok (.aload_n 1, 1) := by decide +kernel
theorem dL_act_653 : decode cL_act 653 = .ok (.getfield 80, 3) := by decide +kernel
theorem dL_act_656 : decode cL_act 656 = .ok (.iaload, 1) := by decide +kernel
theorem dL_act_657 : decode cL_act 657 = .ok (.invokevirtual 60, 3) := by decide +kernel
theorem dL_act_660 : decode cL_act 660 = .ok (.pop, 1) := by decide +kernel
theorem dL_act_661 : decode cL_act 661 = .ok (.aload_n 1, 1) := by decide +kernel
theorem dL_act_662 : decode cL_act 662 = .ok (.dup, 1) := by decide +kernel
theorem dL_act_663 : decode cL_act 663 = .ok (.getfield 80, 3) := by decide +kernel
theorem dL_act_666 : decode cL_act 666 = .ok (.iconst 1, 1) := by decide +kernel
theorem dL_act_667 : decode cL_act 667 = .ok (.iadd, 1) := by decide +kernel
theorem dL_act_668 : decode cL_act 668 = .ok (.putfield 80, 3) := by decide +kernel
theorem dL_act_671 : decode cL_act 671 = .ok (.iinc 16 1, 3) := by decide +kernel
theorem dL_act_674 : decode cL_act 674 = .ok (.goto (-42), 3) := by decide +kernel
theorem dL_act_677 : decode cL_act 677 = .ok (.aload_n 0, 1) := by decide +kernel
theorem dL_act_678 : decode cL_act 678 = .ok (.iload 15, 2) := by decide +kernel
theorem dL_act_680 : decode cL_act 680 = .ok (.invokevirtual 86, 3) := by decide +kernel
theorem dL_act_683 : decode cL_act 683 = .ok (.iload 16, 2) := by decide +kernel
theorem dL_act_685 : decode cL_act 685 = .ok (.if_icmp .ne 7, 3) := by decide +kernel
theorem dL_act_688 : decode cL_act 688 = .ok (.iconst 1, 1) := by decide +kernel
theorem dL_act_689 : decode cL_act 689 = .ok (.goto 4, 3) := by decide +kernel
theorem dL_act_692 : decode cL_act 692 = .ok (.iconst 0, 1) := by decide +kernel
theorem dL_act_693 : decode cL_act 693 = .ok (.ireturn, 1) := by decide +kernel
set_option maxRecDepth 20000 in
theorem ggL_build_X4_init : GoodIn wsL_build wsX4_init := goodIn_r _ [5, 6, 7, 8, 9, 10, 11, 12, 13, 14, 15, 16, 17, 18, 19, 20, 21, 22, 23, 24, 25, 250, 251, 252, 253, 254, 255, 256, 257, 258, 259, 260, 261, 262, 263] (by decide +kernel) (by decide +kernel)
set_option maxRecDepth 20000 in
theorem gL_build_X4_init_n89 : GoodIn wsL_build (wsX4_init) := ggL_build_X4_init
set_option maxRecDepth 20000 in
theorem ggL_build_L_cell : GoodIn wsL_build wsL_cell := goodIn_r _ [28, 29] (by decide +kernel) (by decide +kernel)
set_option maxRecDepth 20000 in
theorem gL_build_L_cell : GoodIn wsL_build (va_wsS RL 90 yL_cell wsL_cell) := goodIn_app (goodIn_of _ (by decide +kernel)) ggL_build_L_cell
set_option maxRecDepth 20000 in
set_option maxRecDepth 100000 in
theorem ggL_build_L_act : GoodIn wsL_build wsL_act := goodIn_ca (goodIn_ca (goodIn_ca (goodIn_co (List.mem_of_getElem? (i := 32) (by rfl)) (by decide +kernel) (goodIn_app (goodIn_app (goodIn_app (goodIn_app (goodIn_app (goodIn_app (goodIn_r _ [33, 34, 35, 36, 37, 38, 39, 40, 18, 41, 42, 43, 44, 45, 46, 47, 48, 49, 50, 51, 52, 53, 54, 55] (by decide +kernel) (by decide +kernel)) (goodIn_app (goodIn_r _ [56, 57, 58, 59, 60, 61, 62, 63, 64, 65, 66, 67, 68, 69, 70, 71, 72, 73, 74, 75, 76, 77, 78, 79] (by decide +kernel) (by decide +kernel)) (goodIn_app (goodIn_r _ [80, 81, 82, 83, 84, 85, 86, 87, 88, 89, 90, 91, 92, 93, 94, 95, 96, 97, 98, 99, 100, 101, 102, 103] (by decide +kernel) (by decide +kernel)) (goodIn_app (goodIn_r _ [104, 105, 106, 107, 108, 109, 110, 111, 112, 113, 114, 115, 116, 117, 118, 119, 120, 121, 122, 123, 124, 125, 126, 127] (by decide +kernel) (by decide +kernel)) (goodIn_app (goodIn_r _ [128, 129, 130, 131, 132, 133, 134, 135, 136, 137, 138, 139, 140, 141, 142, 143, 144, 145, 146, 147, 148, 149, 150, 151] (by decide +kernel) (by decide +kernel)) (goodIn_app (goodIn_r _ [152, 153, 154, 155, 156, 157, 158, 159, 160, 161, 162, 163, 164, 165, 166, 3, 167, 168, 169, 170, 13, 11, 12, 171] (by decide +kernel) (by decide +kernel)) (goodIn_app (goodIn_r _ [10, 9, 172, 173, 174, 175, 176, 177, 15, 14, 178, 179, 180, 181, 182, 183, 184, 185, 186, 187, 188, 189, 190, 191] (by decide +kernel) (by decide +kernel)) (goodIn_app (goodIn_r _ [192, 193, 194, 195, 196, 197, 198, 199, 200, 201, 202, 203, 204, 205, 206, 207, 16, 20, 21, 22, 23, 24, 25, 208] (by decide +kernel) (by decide +kernel)) (goodIn_app (goodIn_r _ [209, 210, 211, 212, 213, 214, 215, 216, 217, 218, 219, 220, 221, 222, 223, 224, 225, 226, 227, 228, 229, 230, 231, 232] (by decide +kernel) (by decide +kernel)) (goodIn_r _ [233, 234, 235, 236, 237, 238, 239, 240, 241, 242, 243, 244, 245, 246, 247, 248, 249] (by decide +kernel) (by decide +kernel))))))))))) (goodIn_r _ [250, 251, 252, 253, 254, 255, 256, 257, 258, 259, 260, 261, 262, 263] (by decide +kernel) (by decide +kernel))) (goodIn_r _ [264, 265, 266, 267, 268, 269, 270, 271, 272, 273] (by decide +kernel) (by decide +kernel))) (goodIn_r _ [274, 275, 276] (by decide +kernel) (by decide +kernel))) (goodIn_r _ [277, 278] (by decide +kernel) (by decide +kernel))) (goodIn_r _ [279, 280, 281] (by decide +kernel) (by decide +kernel)))) (goodIn_sub (fun _ h => List.mem_cons_of_mem _ (List.mem_append_left _ (List.mem_append_left _ (List.mem_append_right _ h)))) (by decide +kernel))) (goodIn_sub (fun _ h => List.mem_cons_of_mem _ (List.mem_append_left _ (List.mem_append_right _ h))) (by decide +kernel))) (goodIn_sub (fun _ h => List.mem_cons_of_mem _ (List.mem_append_right _ h)) (by decide +kernel))
set_option maxRecDepth 20000 in
theorem gL_build_L_act : GoodIn wsL_build (va_wsS RL 94 yL_act wsL_act) := goodIn_app (goodIn_of _ (by decide +kernel)) ggL_build_L_act
theorem dL_build_0 : decode cL_build 0 = .ok (.new 20, 3) := by decide +kernel
theorem dL_build_3 : decode cL_build 3 = .ok (.dup, 1) := by decide +kernel
theorem dL_build_4 : decode cL_build 4 = .ok (.invokespecial 89, 3) := by decide +kernel
theorem dL_build_7 : decode cL_build 7 = .ok (.astore_n 2, 1) := by decide +kernel
theorem dL_build_8 : decode cL_build 8 = .ok (.iconst 0, 1) := by decide +kernel
theorem dL_build_9 : decode cL_build 9 = .ok (.istore_n 3, 1) := by decide +kernel
theorem dL_build_10 : decode cL_build 10 = .ok (.iload_n 3, 1) := by decide +kernel
theorem dL_build_11 : decode cL_build 11 = .ok (.bipush 40, 2) := by decide +kernel
theorem dL_build_13 : decode cL_build 13 = .ok (.if_icmp .ge 40, 3) := by decide +kernel
theorem dL_build_16 : decode cL_build 16 = .ok (.aload_n 0, 1) := by decide +kernel
theorem dL_build_17 : decode cL_build 17 = .ok (.aload_n 2, 1) := by decide +kernel
theorem dL_build_18 : decode cL_build 18 = .ok (.aload_n 1, 1) := by decide +kernel
theorem dL_build_19 : decode cL_build 19 = .ok (.iload_n 3, 1) := by decide +kernel
theorem dL_build_20 : decode cL_build 20 = .ok (.bipush 16, 2) := by decide +kernel
theorem dL_build_22 : decode cL_build 22 = .ok (.irem, 1) := by decide +kernel
theorem dL_build_23 : decode cL_build 23 = .ok (.invokestatic 90, 3) := by decide +kernel
theorem dL_build_26 : decode cL_build 26 = .ok (.iload_n 3, 1) := by decide +kernel
theorem dL_build_27 : decode cL_build 27 = .ok (.bipush 16, 2) := by decide +kernel
theorem dL_build_29 : decode cL_build 29 = .ok (.idiv, 1) := by decide +kernel
theorem dL_build_30 : decode cL_build 30 = .ok (.iconst 4, 1) := by decide +kernel
theorem dL_build_31 : decode cL_build 31 = .ok (.imul, 1) := by decide +kernel
theorem dL_build_32 : decode cL_build 32 = .ok (.ishr, 1) := by decide +kernel
theorem dL_build_33 : decode cL_build 33 = .ok (.sipush 277, 3) := by decide +kernel
theorem dL_build_36 : decode cL_build 36 = .ok (.iload_n 3, 1) := by decide +kernel
theorem dL_build_37 : decode cL_build 37 = .ok (.imul, 1) := by decide +kernel
theorem dL_build_38 : decode cL_build 38 = .ok (.iadd, 1) := by decide +kernel
theorem dL_build_39 : decode cL_build 39 = .ok (.invokestatic 94, 3) := by decide +kernel
theorem dL_build_42 : decode cL_build 42 = .ok (.ifCond .ne 5, 3) := by decide +kernel
theorem dL_build_45 : decode cL_build 45 = .ok (.aconst_null, 1) := by decide +kernel
theorem dL_build_46 : decode cL_build 46 = .ok (.areturn, 1) := by decide +kernel
theorem dL_build_47 : decode cL_build 47 = .ok (.iinc 3 1, 3) := by decide +kernel
theorem dL_build_50 : decode cL_build 50 = .ok (.goto (-40), 3) := by decide +kernel
theorem dL_build_53 : decode cL_build 53 = .ok (.aload_n 2, 1) := by decide +kernel
theorem dL_build_54 : decode cL_build 54 = .ok (.areturn, 1) := by decide +kernel
set_option maxRecDepth 20000 in
theorem ggL_law_X3_init : GoodIn wsL_law wsX3_init := goodIn_r _ [12, 13, 14, 15, 16, 17, 18, 19, 20, 21, 22, 23, 24, 25, 26, 27, 28, 29, 30, 31, 32, 33, 34, 35, 36, 37, 38, 3, 39, 40, 41, 42, 43, 44, 45, 46, 47, 48, 49, 50, 51, 52, 53, 378, 379, 380, 354, 355, 356, 357, 358, 359, 360, 361, 362, 363, 381, 382, 383, 384, 385] (by decide +kernel) (by decide +kernel)
set_option maxRecDepth 20000 in
theorem gL_law_X3_init : GoodIn wsL_law (wsX3_init) := ggL_law_X3_init
set_option maxRecDepth 20000 in
set_option maxRecDepth 100000 in
theorem ggL_law_L_build : GoodIn wsL_law wsL_build := goodIn_ca (goodIn_ca (goodIn_ca (goodIn_co (List.mem_of_getElem? (i := 57) (by rfl)) (by decide +kernel) (goodIn_app (goodIn_app (goodIn_app (goodIn_app (goodIn_app (goodIn_app (goodIn_r _ [58, 59, 60, 61, 62, 63, 14, 15, 64, 65, 66, 3, 67, 68, 69, 70, 71, 56, 72, 73, 74, 75, 76, 77] (by decide +kernel) (by decide +kernel)) (goodIn_app ((show GoodIn _ ([Cond.code yL_isType cL_isType 1 (some .boolean), Cond.methodLink RL 90 yL_cell, Cond.static yL_cell, Cond.code yL_cell cL_cell 2 (some .int), Cond.constant RL 8 (790386105), Cond.methodLink RL 94 yL_act, Cond.static yL_act] ++ (Cond.code yL_act cL_act 17 (some .boolean) :: [Cond.fieldLink RL 19 "TapePrinterLaw$Sim" "tape" "[I", Cond.fieldLink RL 29 "TapePrinterLaw$Sim" "late" "[I", Cond.fieldLink RL 32 "TapePrinterLaw$Sim" "garble" "[I", Cond.fieldLink RL 41 "TapePrinterLaw$Sim" "play" "I", Cond.fieldLink RL 49 "TapePrinterLaw$Sim" "unshifts" "Z", Cond.fieldLink RL 80 "TapePrinterLaw$Sim" "reader" "I", Cond.methodLink RL 25 yL_below, Cond.static yL_below, Cond.code yL_below cL_below 2 (some .int), Cond.constant RL 7 (2147483647), Cond.methodLink RL 35 yX3_setLine, Cond.instanceMethod yX3_setLine, Cond.selects RX3 yX3_setLine yX3_setLine, Cond.initialized RX3, Cond.code yX3_setLine cX3_setLine 5 (some .int), Cond.classLink RX3 36 "java/lang/IndexOutOfBoundsException"])) from goodIn_app (goodIn_r _ [78, 79, 80, 81, 82, 83, 84] (by decide +kernel) (by decide +kernel)) (goodIn_co (List.mem_of_getElem? (i := 85) (by rfl)) (by decide +kernel) (goodIn_r _ [8, 86, 87, 88, 89, 9, 90, 91, 92, 93, 94, 95, 96, 2, 97, 98] (by decide +kernel) (by decide +kernel))))) (goodIn_app (goodIn_r _ [99, 100, 101, 19, 102, 103, 104, 105, 106, 107, 18, 108, 33, 109, 110, 111, 26, 112, 39, 113, 114, 115, 116, 44] (by decide +kernel) (by decide +kernel)) (goodIn_app (goodIn_r _ [117, 118, 119, 120, 34, 121, 122, 123, 124, 125, 126, 127, 128, 129, 130, 131, 132, 133, 134, 135, 136, 137, 138, 139] (by decide +kernel) (by decide +kernel)) (goodIn_app (goodIn_r _ [140, 141, 142, 143, 144, 145, 146, 147, 148, 149, 150, 151, 152, 153, 154, 155, 156, 157, 158, 159, 160, 161, 23, 162] (by decide +kernel) (by decide +kernel)) (goodIn_app (goodIn_r _ [163, 164, 165, 166, 167, 168, 169, 170, 171, 172, 173, 174, 175, 176, 22, 177, 51, 178, 179, 180, 181, 182, 50, 183] (by decide +kernel) (by decide +kernel)) (goodIn_app (goodIn_r _ [184, 185, 186, 187, 188, 189, 190, 191, 41, 42, 43, 192, 193, 194, 195, 196, 197, 198, 199, 200, 201, 202, 203, 204] (by decide +kernel) (by decide +kernel)) (goodIn_app (goodIn_r _ [205, 206, 207, 208, 209, 210, 211, 212, 213, 214, 215, 216, 217, 218, 219, 220, 221, 222, 223, 224, 225, 226, 227, 228] (by decide +kernel) (by decide +kernel)) (goodIn_app (goodIn_r _ [229, 27, 230, 231, 232, 233, 234, 235, 236, 237, 238, 239, 240, 241, 242, 243, 244, 245, 246, 247, 248, 249, 250, 251] (by decide +kernel) (by decide +kernel)) (goodIn_app (goodIn_r _ [252, 253, 254, 255, 256, 257, 258, 259, 260, 261, 262, 263, 264, 265, 266, 267, 268, 269, 270, 271, 272, 273, 274, 275] (by decide +kernel) (by decide +kernel)) (goodIn_r _ [276, 277, 278, 279, 280, 281, 5, 6, 7] (by decide +kernel) (by decide +kernel)))))))))))) (goodIn_r _ [364, 365, 366, 367, 368, 369, 370, 371, 372, 373, 374, 375, 376, 377] (by decide +kernel) (by decide +kernel))) (goodIn_r _ [354, 355, 356, 357, 358, 359, 360, 361, 362, 363] (by decide +kernel) (by decide +kernel))) (goodIn_r _ [378, 379, 380] (by decide +kernel) (by decide +kernel))) (goodIn_r _ [384, 385] (by decide +kernel) (by decide +kernel))) (goodIn_r _ [381, 382, 383] (by decide +kernel) (by decide +kernel)))) (goodIn_sub (fun _ h => List.mem_append_left _ (List.mem_append_left _ (List.mem_append_right _ h))) (by decide +kernel))) (goodIn_sub (fun _ h => List.mem_append_left _ (List.mem_append_right _ h)) (by decide +kernel))) (goodIn_sub (fun _ h => List.mem_append_right _ h) (by decide +kernel))
set_option maxRecDepth 20000 in
theorem gL_law_L_build : GoodIn wsL_law (va_wsS RL 99 yL_build wsL_build) := goodIn_app (goodIn_of _ (by decide +kernel)) ggL_law_L_build
set_option maxRecDepth 20000 in
theorem ggL_law_L_cell : GoodIn wsL_law wsL_cell := goodIn_r _ [81, 82] (by decide +kernel) (by decide +kernel)
set_option maxRecDepth 20000 in
theorem gL_law_L_cell : GoodIn wsL_law (va_wsS RL 90 yL_cell wsL_cell) := goodIn_app (goodIn_of _ (by decide +kernel)) ggL_law_L_cell
set_option maxRecDepth 20000 in
set_option maxRecDepth 100000 in
theorem ggL_law_L_act : GoodIn wsL_law wsL_act := goodIn_ca (goodIn_ca (goodIn_ca (goodIn_co (List.mem_of_getElem? (i := 85) (by rfl)) (by decide +kernel) (goodIn_app (goodIn_app (goodIn_app (goodIn_app (goodIn_app (goodIn_app (goodIn_r _ [8, 86, 87, 88, 89, 9, 90, 91, 56, 92, 93, 94, 95, 96, 2, 97, 98, 99, 100, 101, 19, 102, 103, 104] (by decide +kernel) (by decide +kernel)) (goodIn_app (goodIn_r _ [105, 106, 107, 18, 108, 33, 109, 110, 111, 26, 112, 39, 113, 114, 115, 116, 44, 117, 118, 119, 120, 34, 121, 122] (by decide +kernel) (by decide +kernel)) (goodIn_app (goodIn_r _ [123, 124, 125, 126, 127, 128, 129, 130, 131, 132, 133, 134, 135, 136, 137, 138, 139, 140, 141, 142, 143, 144, 145, 146] (by decide +kernel) (by decide +kernel)) (goodIn_app (goodIn_r _ [147, 148, 149, 150, 151, 152, 153, 154, 155, 156, 157, 158, 159, 160, 161, 23, 162, 163, 164, 165, 166, 167, 168, 169] (by decide +kernel) (by decide +kernel)) (goodIn_app (goodIn_r _ [170, 171, 172, 173, 174, 175, 176, 22, 177, 51, 178, 179, 180, 181, 182, 50, 183, 184, 185, 186, 187, 188, 189, 190] (by decide +kernel) (by decide +kernel)) (goodIn_app (goodIn_r _ [191, 41, 42, 43, 192, 193, 194, 195, 196, 197, 198, 199, 200, 201, 202, 60, 203, 204, 205, 206, 67, 66, 3, 207] (by decide +kernel) (by decide +kernel)) (goodIn_app (goodIn_r _ [65, 64, 208, 209, 210, 211, 212, 213, 69, 68, 214, 215, 216, 217, 218, 219, 220, 221, 222, 223, 224, 225, 226, 227] (by decide +kernel) (by decide +kernel)) (goodIn_app (goodIn_r _ [228, 229, 27, 230, 231, 232, 233, 234, 235, 236, 237, 238, 239, 240, 241, 242, 70, 73, 74, 75, 76, 77, 78, 243] (by decide +kernel) (by decide +kernel)) (goodIn_app (goodIn_r _ [244, 245, 246, 247, 248, 249, 250, 251, 252, 253, 254, 255, 256, 257, 258, 259, 260, 261, 262, 263, 264, 265, 266, 267] (by decide +kernel) (by decide +kernel)) (goodIn_r _ [268, 269, 270, 271, 272, 273, 274, 275, 276, 277, 278, 279, 280, 281, 5, 6, 7] (by decide +kernel) (by decide +kernel))))))))))) (goodIn_r _ [364, 365, 366, 367, 368, 369, 370, 371, 372, 373, 374, 375, 376, 377] (by decide +kernel) (by decide +kernel))) (goodIn_r _ [354, 355, 356, 357, 358, 359, 360, 361, 362, 363] (by decide +kernel) (by decide +kernel))) (goodIn_r _ [378, 379, 380] (by decide +kernel) (by decide +kernel))) (goodIn_r _ [384, 385] (by decide +kernel) (by decide +kernel))) (goodIn_r _ [381, 382, 383] (by decide +kernel) (by decide +kernel)))) (goodIn_sub (fun _ h => List.mem_append_left _ (List.mem_append_left _ (List.mem_append_right _ h))) (by decide +kernel))) (goodIn_sub (fun _ h => List.mem_append_left _ (List.mem_append_right _ h)) (by decide +kernel))) (goodIn_sub (fun _ h => List.mem_append_right _ h) (by decide +kernel))
set_option maxRecDepth 20000 in
theorem gL_law_L_act : GoodIn wsL_law (va_wsS RL 94 yL_act wsL_act) := goodIn_app (goodIn_of _ (by decide +kernel)) ggL_law_L_act
set_option maxRecDepth 20000 in
theorem ggL_law_X3_count : GoodIn wsL_law wsX3_count := goodIn_ca (goodIn_r _ [285, 98, 99, 286, 287, 288, 2, 289, 23, 161, 19, 27, 276, 151, 152, 162, 142, 163, 290, 291, 292, 22, 293, 51, 294, 295, 296, 297, 179, 180, 181, 182, 178, 50, 298, 236, 237, 26, 238, 44, 129, 130, 131, 18, 132, 133, 235, 354, 355, 356, 357, 358, 359, 360, 361, 362, 363, 381, 382, 383, 384, 385, 378, 379, 380] (by decide +kernel) (by decide +kernel)) (goodIn_sub (fun _ h => List.mem_append_left _ (List.mem_append_left _ (List.mem_append_right _ h))) (by decide +kernel))
set_option maxRecDepth 20000 in
theorem gL_law_X3_count : GoodIn wsL_law (wsV RL 103 RX3 yX3_count wsX3_count) := goodIn_app (goodIn_of _ (by decide +kernel)) ggL_law_X3_count
set_option maxRecDepth 20000 in
theorem ggL_law_X3_length : GoodIn wsL_law wsX3_length := goodIn_ca (goodIn_r _ [302, 98, 99, 23, 303, 180, 181, 22, 182, 51, 178, 50, 235, 236, 237, 26, 238, 44, 354, 355, 356, 357, 358, 359, 360, 361, 362, 363, 381, 382, 383, 384, 385] (by decide +kernel) (by decide +kernel)) (goodIn_sub (fun _ h => List.mem_append_left _ (List.mem_append_left _ (List.mem_append_right _ h))) (by decide +kernel))
set_option maxRecDepth 20000 in
theorem gL_law_X3_length : GoodIn wsL_law (wsV RL 106 RX3 yX3_length wsX3_length) := goodIn_app (goodIn_of _ (by decide +kernel)) ggL_law_X3_length
set_option maxRecDepth 20000 in
theorem ggL_law_L_below : GoodIn wsL_law wsL_below := goodIn_r _ [92, 93] (by decide +kernel) (by decide +kernel)
set_option maxRecDepth 20000 in
theorem gL_law_L_below : GoodIn wsL_law (va_wsS RL 25 yL_below wsL_below) := goodIn_app (goodIn_of _ (by decide +kernel)) ggL_law_L_below
set_option maxRecDepth 20000 in
theorem ggL_law_X3_would : GoodIn wsL_law wsX3_would := goodIn_ca (goodIn_r _ [307, 98, 99, 19, 151, 102, 103, 2, 104, 153, 154, 155, 18, 156, 34, 33, 133, 109, 110, 111, 26, 112, 39, 113, 114, 115, 116, 44, 354, 355, 356, 357, 358, 359, 360, 361, 362, 363, 378, 379, 380, 384, 385] (by decide +kernel) (by decide +kernel)) (goodIn_sub (fun _ h => List.mem_append_left _ (List.mem_append_left _ (List.mem_append_right _ h))) (by decide +kernel))
set_option maxRecDepth 20000 in
theorem gL_law_X3_would : GoodIn wsL_law (wsV RL 109 RX3 yX3_would wsX3_would) := goodIn_app (goodIn_of _ (by decide +kernel)) ggL_law_X3_would
set_option maxRecDepth 20000 in
theorem ggL_law_X3_receive : GoodIn wsL_law wsX3_receive := goodIn_ca (goodIn_r _ [146, 98, 99, 102, 103, 2, 104, 147, 148, 149, 150, 19, 151, 152, 153, 154, 155, 18, 156, 34, 33, 133, 109, 110, 111, 26, 112, 39, 113, 114, 115, 116, 44, 157, 158, 159, 160, 161, 23, 162, 163, 164, 165, 166, 167, 168, 169, 170, 171, 172, 173, 174, 175, 176, 22, 177, 51, 178, 179, 180, 181, 182, 50, 183, 184, 185, 186, 187, 188, 189, 190, 191, 41, 42, 43, 192, 193, 194, 195, 196, 197, 198, 199, 142, 354, 355, 356, 357, 358, 359, 360, 361, 362, 363, 378, 379, 380, 384, 385, 381, 382, 383] (by decide +kernel) (by decide +kernel)) (goodIn_sub (fun _ h => List.mem_append_left _ (List.mem_append_left _ (List.mem_append_right _ h))) (by decide +kernel))
set_option maxRecDepth 20000 in
theorem gL_law_X3_receive : GoodIn wsL_law (wsV RL 57 RX3 yX3_receive wsX3_receive) := goodIn_app (goodIn_of _ (by decide +kernel)) ggL_law_X3_receive
set_option maxRecDepth 20000 in
theorem ggL_law_X4_come : GoodIn wsL_law wsX4_come := goodIn_r _ [203, 204, 205, 206, 67, 66, 3, 207, 65, 64, 208, 209, 210, 211, 60, 212, 213, 69, 68, 214, 215, 216, 217, 218, 219, 220, 221, 222, 364, 365, 366, 367, 368, 369, 370, 371, 372, 373, 374, 375, 376, 377] (by decide +kernel) (by decide +kernel)
set_option maxRecDepth 20000 in
theorem gL_law_X4_come : GoodIn wsL_law (wsV RL 60 RX4 yX4_come wsX4_come) := goodIn_app (goodIn_of _ (by decide +kernel)) ggL_law_X4_come
set_option maxRecDepth 20000 in
theorem ggL_law_X3_character : GoodIn wsL_law wsX3_character := goodIn_ca (goodIn_r _ [311, 98, 99, 102, 103, 2, 104, 164, 165, 166, 167, 168, 169, 170, 171, 172, 173] (by decide +kernel) (by decide +kernel)) (goodIn_sub (fun _ h => List.mem_append_left _ (List.mem_append_left _ (List.mem_append_right _ h))) (by decide +kernel))
set_option maxRecDepth 20000 in
theorem gL_law_X3_character : GoodIn wsL_law (wsV RL 112 RX3 yX3_character wsX3_character) := goodIn_app (goodIn_of _ (by decide +kernel)) ggL_law_X3_character
set_option maxRecDepth 20000 in
theorem ggL_law_X3_page : GoodIn wsL_law wsX3_page := goodIn_ca (goodIn_r _ [315, 98, 99, 23, 303, 180, 181, 22, 182, 51, 178, 50, 270, 114, 115, 26, 116, 44, 39, 265, 110, 111, 112, 113, 354, 355, 356, 357, 358, 359, 360, 361, 362, 363, 381, 382, 383, 384, 385] (by decide +kernel) (by decide +kernel)) (goodIn_sub (fun _ h => List.mem_append_left _ (List.mem_append_left _ (List.mem_append_right _ h))) (by decide +kernel))
set_option maxRecDepth 20000 in
theorem gL_law_X3_page : GoodIn wsL_law (wsV RL 121 RX3 yX3_page wsX3_page) := goodIn_app (goodIn_of _ (by decide +kernel)) ggL_law_X3_page
set_option maxRecDepth 20000 in
theorem ggL_law_X3_wrong : GoodIn wsL_law wsX3_wrong := goodIn_r _ [319, 276, 27, 19, 151, 235, 236, 237, 26, 238, 44, 265, 110, 111, 112, 39, 113, 114, 115, 116, 153, 154, 155, 18, 156, 34, 33, 133, 109, 354, 355, 356, 357, 358, 359, 360, 361, 362, 363, 384, 385, 378, 379, 380] (by decide +kernel) (by decide +kernel)
set_option maxRecDepth 20000 in
theorem gL_law_X3_wrong : GoodIn wsL_law (wsV RL 124 RX3 yX3_wrong wsX3_wrong) := goodIn_app (goodIn_of _ (by decide +kernel)) ggL_law_X3_wrong
set_option maxRecDepth 20000 in
theorem ggL_law_X3_idle : GoodIn wsL_law wsX3_idle := goodIn_r _ [323, 27, 235, 236, 237, 26, 238, 44, 265, 110, 111, 112, 39, 113, 114, 115, 116, 192, 193, 194, 2, 195, 196, 197, 198, 199, 142, 324, 325, 326, 327, 328, 329, 330, 171, 172, 173, 167, 168, 169, 170, 354, 355, 356, 357, 358, 359, 360, 361, 362, 363, 384, 385] (by decide +kernel) (by decide +kernel)
set_option maxRecDepth 20000 in
theorem gL_law_X3_idle : GoodIn wsL_law (wsV RL 128 RX3 yX3_idle wsX3_idle) := goodIn_app (goodIn_of _ (by decide +kernel)) ggL_law_X3_idle
set_option maxRecDepth 20000 in
theorem ggL_law_X3_tape : GoodIn wsL_law wsX3_tape := goodIn_ca (goodIn_r _ [334, 98, 99, 27, 270, 114, 115, 26, 116, 44, 39, 265, 110, 111, 112, 113, 354, 355, 356, 357, 358, 359, 360, 361, 362, 363, 384, 385] (by decide +kernel) (by decide +kernel)) (goodIn_sub (fun _ h => List.mem_append_left _ (List.mem_append_left _ (List.mem_append_right _ h))) (by decide +kernel))
set_option maxRecDepth 20000 in
theorem gL_law_X3_tape : GoodIn wsL_law (wsV RL 131 RX3 yX3_tape wsX3_tape) := goodIn_app (goodIn_of _ (by decide +kernel)) ggL_law_X3_tape
set_option maxRecDepth 20000 in
theorem ggL_law_X3_rub : GoodIn wsL_law wsX3_rub := goodIn_ca (goodIn_r _ [269, 98, 99, 27, 270, 114, 115, 26, 116, 44, 39, 265, 110, 111, 112, 113, 271, 122, 123, 124, 354, 355, 356, 357, 358, 359, 360, 361, 362, 363, 384, 385] (by decide +kernel) (by decide +kernel)) (goodIn_sub (fun _ h => List.mem_append_left _ (List.mem_append_left _ (List.mem_append_right _ h))) (by decide +kernel))
set_option maxRecDepth 20000 in
theorem gL_law_X3_rub : GoodIn wsL_law (wsV RL 77 RX3 yX3_rub wsX3_rub) := goodIn_app (goodIn_of _ (by decide +kernel)) ggL_law_X3_rub
set_option maxRecDepth 20000 in
theorem ggL_law_X3_prints : GoodIn wsL_law wsX3_prints := goodIn_ca (goodIn_r _ [338, 98, 99, 27, 270, 114, 115, 26, 116, 44, 39, 265, 110, 111, 112, 113, 261, 262, 263, 2, 264, 235, 236, 237, 238, 192, 193, 194, 195, 196, 197, 198, 199, 142, 164, 165, 166, 167, 168, 169, 170, 171, 172, 173, 354, 355, 356, 357, 358, 359, 360, 361, 362, 363, 384, 385] (by decide +kernel) (by decide +kernel)) (goodIn_sub (fun _ h => List.mem_append_left _ (List.mem_append_left _ (List.mem_append_right _ h))) (by decide +kernel))
set_option maxRecDepth 20000 in
theorem gL_law_X3_prints : GoodIn wsL_law (wsV RL 133 RX3 yX3_prints wsX3_prints) := goodIn_app (goodIn_of _ (by decide +kernel)) ggL_law_X3_prints
set_option maxRecDepth 20000 in
theorem ggL_law_X3_run : GoodIn wsL_law wsX3_run := goodIn_ca (goodIn_r _ [280, 100, 101, 27, 276, 281, 5, 6, 7, 235, 236, 237, 26, 238, 44, 265, 110, 111, 112, 39, 113, 114, 115, 116, 147, 148, 149, 2, 150, 19, 151, 152, 153, 154, 155, 18, 156, 34, 33, 133, 109, 157, 158, 159, 160, 161, 23, 162, 163, 164, 165, 166, 167, 168, 169, 170, 171, 172, 173, 174, 175, 176, 22, 177, 51, 178, 179, 180, 181, 182, 50, 183, 184, 185, 186, 187, 188, 189, 190, 191, 41, 42, 43, 192, 193, 194, 195, 196, 197, 198, 199, 142, 354, 355, 356, 357, 358, 359, 360, 361, 362, 363, 384, 385, 378, 379, 380, 381, 382, 383] (by decide +kernel) (by decide +kernel)) (goodIn_sub (fun _ h => List.mem_append_left _ (List.mem_append_right _ h)) (by decide +kernel))
set_option maxRecDepth 20000 in
theorem gL_law_X3_run : GoodIn wsL_law (wsV RL 86 RX3 yX3_run wsX3_run) := goodIn_app (goodIn_of _ (by decide +kernel)) ggL_law_X3_run
set_option maxRecDepth 20000 in
theorem ggL_law_X3_wind : GoodIn wsL_law wsX3_wind := goodIn_ca (goodIn_r _ [275, 98, 99, 27, 276, 235, 236, 237, 26, 238, 44, 354, 355, 356, 357, 358, 359, 360, 361, 362, 363, 384, 385] (by decide +kernel) (by decide +kernel)) (goodIn_sub (fun _ h => List.mem_append_left _ (List.mem_append_left _ (List.mem_append_right _ h))) (by decide +kernel))
set_option maxRecDepth 20000 in
theorem gL_law_X3_wind : GoodIn wsL_law (wsV RL 83 RX3 yX3_wind wsX3_wind) := goodIn_app (goodIn_of _ (by decide +kernel)) ggL_law_X3_wind
set_option maxRecDepth 20000 in
theorem ggL_law_X4_isSame : GoodIn wsL_law wsX4_isSame := goodIn_ca (goodIn_r _ [342, 67, 70, 65, 64, 3, 207, 214, 343, 204, 205, 208, 222, 206, 344, 300, 301, 2, 302, 98, 99, 23, 303, 180, 181, 22, 182, 51, 178, 50, 235, 236, 237, 26, 238, 44, 345, 313, 314, 315, 270, 114, 115, 116, 39, 265, 110, 111, 112, 113, 346, 240, 241, 60, 242, 213, 218, 219, 220, 221, 347, 332, 333, 334, 27, 348, 336, 337, 338, 261, 262, 263, 264, 192, 193, 194, 195, 196, 197, 198, 199, 142, 164, 165, 166, 167, 168, 169, 170, 171, 172, 173, 349, 283, 284, 285, 286, 287, 288, 289, 161, 19, 276, 151, 152, 162, 163, 290, 291, 292, 293, 294, 295, 296, 297, 179, 298, 129, 130, 131, 18, 132, 133, 350, 351, 352, 353, 364, 365, 366, 367, 368, 369, 370, 371, 372, 373, 374, 375, 376, 377, 354, 355, 356, 357, 358, 359, 360, 361, 362, 363, 381, 382, 383, 384, 385, 378, 379, 380] (by decide +kernel) (by decide +kernel)) (goodIn_sub (fun _ h => List.mem_append_left _ (List.mem_append_left _ (List.mem_append_right _ h))) (by decide +kernel))
set_option maxRecDepth 20000 in
theorem gL_law_X4_isSame : GoodIn wsL_law (wsV RL 136 RX4 yX4_isSame wsX4_isSame) := goodIn_app (goodIn_of _ (by decide +kernel)) ggL_law_X4_isSame
theorem dL_law_0 : decode cL_law 0 = .ok (.new 36, 3) := by decide +kernel
theorem dL_law_3 : decode cL_law 3 = .ok (.dup, 1) := by decide +kernel
theorem dL_law_4 : decode cL_law 4 = .ok (.invokespecial 98, 3) := by decide +kernel
theorem dL_law_7 : decode cL_law 7 = .ok (.astore_n 1, 1) := by decide +kernel
theorem dL_law_8 : decode cL_law 8 = .ok (.aload_n 1, 1) := by decide +kernel
theorem dL_law_9 : decode cL_law 9 = .ok (.aload_n 0, 1) := by decide +kernel
theorem dL_law_10 : decode cL_law 10 = .ok (.invokestatic 99, 3) := by decide +kernel
theorem dL_law_13 : decode cL_law 13 = .ok (.astore_n 2, 1) := by decide +kernel
theorem dL_law_14 : decode cL_law 14 = .ok (.aload_n 2, 1) := by decide +kernel
theorem dL_law_15 : decode cL_law 15 = .ok (.ifnonnull 5, 3) := by decide +kernel
theorem dL_law_18 : decode cL_law 18 = .ok (.iconst 0, 1) := by decide +kernel
theorem dL_law_19 : decode cL_law 19 = .ok (.ireturn, 1) := by decide +kernel
theorem dL_law_20 : decode cL_law 20 = .ok (.iconst 0, 1) := by decide +kernel
theorem dL_law_21 : decode cL_law 21 = .ok (.istore_n 3, 1) := by decide +kernel
theorem dL_law_22 : decode cL_law 22 = .ok (.iload_n 3, 1) := by decide +kernel
theorem dL_law_23 : decode cL_law 23 = .ok (.bipush 44, 2) := by decide +kernel
theorem dL_law_25 : decode cL_law 25 = .ok (.if_icmp .ge 837, 3) := by decide +kernel
theorem dL_law_28 : decode cL_law 28 = .ok (.aload_n 0, 1) := by decide +kernel
theorem dL_law_29 : decode cL_law 29 = .ok (.iload_n 3, 1) := by decide +kernel
theorem dL_law_30 : decode cL_law 30 = .ok (.bipush 16, 2) := by decide +kernel
theorem dL_law_32 : decode cL_law 32 = .ok (.irem, 1) := by decide +kernel
theorem dL_law_33 : decode cL_law 33 = .ok (.invokestatic 90, 3) := by decide +kernel
theorem dL_law_36 : decode cL_law 36 = .ok (.iload_n 3, 1) := by decide +kernel
theorem dL_law_37 : decode cL_law 37 = .ok (.bipush 16, 2) := by decide +kernel
theorem dL_law_39 : decode cL_law 39 = .ok (.idiv, 1) := by decide +kernel
theorem dL_law_40 : decode cL_law 40 = .ok (.iconst 3, 1) := by decide +kernel
theorem dL_law_41 : decode cL_law 41 = .ok (.imul, 1) := by decide +kernel
theorem dL_law_42 : decode cL_law 42 = .ok (.ishr, 1) := by decide +kernel
theorem dL_law_43 : decode cL_law 43 = .ok (.sipush 277, 3) := by decide +kernel
theorem dL_law_46 : decode cL_law 46 = .ok (.iload_n 3, 1) := by decide +kernel
theorem dL_law_47 : decode cL_law 47 = .ok (.imul, 1) := by decide +kernel
theorem dL_law_48 : decode cL_law 48 = .ok (.iadd, 1) := by decide +kernel
theorem dL_law_49 : decode cL_law 49 = .ok (.istore 4, 2) := by decide +kernel
theorem dL_law_51 : decode cL_law 51 = .ok (.aload_n 1, 1) := by decide +kernel
theorem dL_law_52 : decode cL_law 52 = .ok (.aload_n 2, 1) := by decide +kernel
theorem dL_law_53 : decode cL_law 53 = .ok (.iload 4, 2) := by decide +kernel
theorem dL_law_55 : decode cL_law 55 = .ok (.invokestatic 94, 3) := by decide +kernel
theorem dL_law_58 : decode cL_law 58 = .ok (.ifCond .ne 5, 3) := by decide +kernel
theorem dL_law_61 : decode cL_law 61 = .ok (.iconst 0, 1) := by decide +kernel
theorem dL_law_62 : decode cL_law 62 = .ok (.ireturn, 1) := by decide +kernel
theorem dL_law_63 : decode cL_law 63 = .ok (.aload_n 1, 1) := by decide +kernel
theorem dL_law_64 : decode cL_law 64 = .ok (.iconst 0, 1) := by decide +kernel
theorem dL_law_65 : decode cL_law 65 = .ok (.invokevirtual 103, 3) := by decide +kernel
theorem dL_law_68 : decode cL_law 68 = .ok (.istore 5, 2) := by decide +kernel
theorem dL_law_70 : decode cL_law 70 = .ok (.aload_n 1, 1) := by decide +kernel
theorem dL_law_71 : decode cL_law 71 = .ok (.iload 5, 2) := by decide +kernel
theorem dL_law_73 : decode cL_law 73 = .ok (.iconst 1, 1) := by decide +kernel
theorem dL_law_74 : decode cL_law 74 = .ok (.isub, 1) := by decide +kernel
theorem dL_law_75 : decode cL_law 75 = .ok (.invokevirtual 106, 3) := by decide +kernel
theorem dL_law_78 : decode cL_law 78 = .ok (.istore 6, 2) := by decide +kernel
theorem dL_law_80 : decode cL_law 80 = .ok (.bipush 11, 2) := by decide +kernel
theorem dL_law_82 : decode cL_law 82 = .ok (.newarray .int, 2) := by decide +kernel
theorem dL_law_84 : decode cL_law 84 = .ok (.astore 7, 2) := by decide +kernel
theorem dL_law_86 : decode cL_law 86 = .ok (.iconst 0, 1) := by decide +kernel
theorem dL_law_87 : decode cL_law 87 = .ok (.istore 8, 2) := by decide +kernel
theorem dL_law_89 : decode cL_law 89 = .ok (.iload 8, 2) := by decide +kernel
theorem dL_law_91 : decode cL_law 91 = .ok (.bipush 11, 2) := by decide +kernel
theorem dL_law_93 : decode cL_law 93 = .ok (.if_icmp .ge 20, 3) := by decide +kernel
theorem dL_law_96 : decode cL_law 96 = .ok (.aload 7, 2) := by decide +kernel
theorem dL_law_98 : decode cL_law 98 = .ok (.iload 8, 2) := by decide +kernel
theorem dL_law_100 : decode cL_law 100 = .ok (.aload_n 1, 1) := by decide +kernel
theorem dL_law_101 : decode cL_law 101 = .ok (.iload 8, 2) := by decide +kernel
theorem dL_law_103 : decode cL_law 103 = .ok (.invokevirtual 103, 3) := by decide +kernel
theorem dL_law_106 : decode cL_law 106 = .ok (.iastore, 1) := by decide +kernel
theorem dL_law_107 : decode cL_law 107 = .ok (.iinc 8 1, 3) := by decide +kernel
theorem dL_law_110 : decode cL_law 110 = .ok (.goto (-21), 3) := by decide +kernel
theorem dL_law_113 : decode cL_law 113 = .ok (.iload 4, 2) := by decide +kernel
theorem dL_law_115 : decode cL_law 115 = .ok (.iconst 3, 1) := by decide +kernel
theorem dL_law_116 : decode cL_law 116 = .ok (.ishr, 1) := by decide +kernel
theorem dL_law_117 : decode cL_law 117 = .ok (.bipush 32, 2) := by decide +kernel
theorem dL_law_119 : decode cL_law 119 = .ok (.invokestatic 25, 3) := by decide +kernel
theorem dL_law_122 : decode cL_law 122 = .ok (.istore 8, 2) := by decide +kernel
theorem dL_law_124 : decode cL_law 124 = .ok (.aload_n 1, 1) := by decide +kernel
theorem dL_law_125 : decode cL_law 125 = .ok (.iload 8, 2) := by decide +kernel
theorem dL_law_127 : decode cL_law 127 = .ok (.invokevirtual 109, 3) := by decide +kernel
theorem dL_law_130 : decode cL_law 130 = .ok (.istore 9, 2) := by decide +kernel
theorem dL_law_132 : decode cL_law 132 = .ok (.aload_n 1, 1) := by decide +kernel
theorem dL_law_133 : decode cL_law 133 = .ok (.iconst 0, 1) := by decide +kernel
theorem dL_law_134 : decode cL_law 134 = .ok (.invokevirtual 106, 3) := by decide +kernel
theorem dL_law_137 : decode cL_law 137 = .ok (.istore 10, 2) := by decide +kernel
theorem dL_law_139 : decode cL_law 139 = .ok (.aload_n 1, 1) := by decide +kernel
theorem dL_law_140 : decode cL_law 140 = .ok (.iload 8, 2) := by decide +kernel
theorem dL_law_142 : decode cL_law 142 = .ok (.invokevirtual 57, 3) := by decide +kernel
theorem dL_law_145 : decode cL_law 145 = .ok (.istore 11, 2) := by decide +kernel
theorem dL_law_147 : decode cL_law 147 = .ok (.iload 11, 2) := by decide +kernel
theorem dL_law_149 : decode cL_law 149 = .ok (.iload 9, 2) := by decide +kernel
theorem dL_law_151 : decode cL_law 151 = .ok (.if_icmp .ne 81, 3) := by decide +kernel
theorem dL_law_154 : decode cL_law 154 = .ok (.iload 11, 2) := by decide +kernel
theorem dL_law_156 : decode cL_law 156 = .ok (.aload_n 2, 1) := by decide +kernel
theorem dL_law_157 : decode cL_law 157 = .ok (.iload 8, 2) := by decide +kernel
theorem dL_law_159 : decode cL_law 159 = .ok (.invokevirtual 60, 3) := by decide +kernel
theorem dL_law_162 : decode cL_law 162 = .ok (.if_icmp .ne 70, 3) := by decide +kernel
theorem dL_law_165 : decode cL_law 165 = .ok (.aload_n 1, 1) := by decide +kernel
theorem dL_law_166 : decode cL_law 166 = .ok (.bipush 6, 2) := by decide +kernel
theorem dL_law_168 : decode cL_law 168 = .ok (.invokevirtual 103, 3) := by decide +kernel
theorem dL_law_171 : decode cL_law 171 = .ok (.aload 7, 2) := by decide +kernel
theorem dL_law_173 : decode cL_law 173 = .ok (.bipush 6, 2) := by decide +kernel
theorem dL_law_175 : decode cL_law 175 = .ok (.iaload, 1) := by decide +kernel
theorem dL_law_176 : decode cL_law 176 = .ok (.iconst 1, 1) := by decide +kernel
theorem dL_law_177 : decode cL_law 177 = .ok (.iadd, 1) := by decide +kernel
theorem dL_law_178 : decode cL_law 178 = .ok (.if_icmp .ne 54, 3) := by decide +kernel
theorem dL_law_181 : decode cL_law 181 = .ok (.aload_n 1, 1) := by decide +kernel
theorem dL_law_182 : decode cL_law 182 = .ok (.bipush 7, 2) := by decide +kernel
theorem dL_law_184 : decode cL_law 184 = .ok (.invokevirtual 103, 3) := by decide +kernel
theorem dL_law_187 : decode cL_law 187 = .ok (.aload 7, 2) := by decide +kernel
theorem dL_law_189 : decode cL_law 189 = .ok (.bipush 7, 2) := by decide +kernel
theorem dL_law_191 : decode cL_law 191 = .ok (.iaload, 1) := by decide +kernel
theorem dL_law_192 : decode cL_law 192 = .ok (.iload 11, 2) := by decide +kernel
theorem dL_law_194 : decode cL_law 194 = .ok (.iload 8, 2) := by decide +kernel
theorem dL_law_196 : decode cL_law 196 = .ok (.if_icmp .ne 7, 3) := by decide +kernel
theorem dL_law_199 : decode cL_law 199 = .ok (.iconst 0, 1) := by decide +kernel
theorem dL_law_200 : decode cL_law 200 = .ok (.goto 4, 3) := by decide +kernel
theorem dL_law_203 : decode cL_law 203 = .ok (.iconst 1, 1) := by decide +kernel
theorem dL_law_204 : decode cL_law 204 = .ok (.iadd, 1) := by decide +kernel
theorem dL_law_205 : decode cL_law 205 = .ok (.if_icmp .ne 27, 3) := by decide +kernel
theorem dL_law_208 : decode cL_law 208 = .ok (.aload_n 1, 1) := by decide +kernel
theorem dL_law_209 : decode cL_law 209 = .ok (.iconst 4, 1) := by decide +kernel
theorem dL_law_210 : decode cL_law 210 = .ok (.invokevirtual 103, 3) := by decide +kernel
theorem dL_law_213 : decode cL_law 213 = .ok (.aload 7, 2) := by decide +kernel
theorem dL_law_215 : decode cL_law 215 = .ok (.iconst 4, 1) := by decide +kernel
theorem dL_law_216 : decode cL_law 216 = .ok (.iaload, 1) := by decide +kernel
theorem dL_law_217 : decode cL_law 217 = .ok (.if_icmp .ne 15, 3) := by decide +kernel
theorem dL_law_220 : decode cL_law 220 = .ok (.aload_n 1, 1) := by decide +kernel
theorem dL_law_221 : decode cL_law 221 = .ok (.iconst 5, 1) := by decide +kernel
theorem dL_law_222 : decode cL_law 222 = .ok (.invokevirtual 103, 3) := by decide +kernel
theorem dL_law_225 : decode cL_law 225 = .ok (.aload 7, 2) := by decide +kernel
theorem dL_law_227 : decode cL_law 227 = .ok (.iconst 5, 1) := by decide +kernel
theorem dL_law_228 : decode cL_law 228 = .ok (.iaload, 1) := by decide +kernel
theorem dL_law_229 : decode cL_law 229 = .ok (.if_icmp .eq 5, 3) := by decide +kernel
theorem dL_law_232 : decode cL_law 232 = .ok (.iconst 0, 1) := by decide +kernel
theorem dL_law_233 : decode cL_law 233 = .ok (.ireturn, 1) := by decide +kernel
theorem dL_law_234 : decode cL_law 234 = .ok (.aload_n 1, 1) := by decide +kernel
theorem dL_law_235 : decode cL_law 235 = .ok (.iload 11, 2) := by decide +kernel
theorem dL_law_237 : decode cL_law 237 = .ok (.aload 7, 2) := by decide +kernel
theorem dL_law_239 : decode cL_law 239 = .ok (.iconst 2, 1) := by decide +kernel
theorem dL_law_240 : decode cL_law 240 = .ok (.iaload, 1) := by decide +kernel
theorem dL_law_241 : decode cL_law 241 = .ok (.iconst 1, 1) := by decide +kernel
theorem dL_law_242 : decode cL_law 242 = .ok (.if_icmp .ne 7, 3) := by decide +kernel
theorem dL_law_245 : decode cL_law 245 = .ok (.iconst 1, 1) := by decide +kernel
theorem dL_law_246 : decode cL_law 246 = .ok (.goto 4, 3) := by decide +kernel
theorem dL_law_249 : decode cL_law 249 = .ok (.iconst 0, 1) := by decide +kernel
theorem dL_law_250 : decode cL_law 250 = .ok (.invokevirtual 112, 3) := by decide +kernel
theorem dL_law_253 : decode cL_law 253 = .ok (.istore 12, 2) := by decide +kernel
theorem dL_law_255 : decode cL_law 255 = .ok (.iload 12, 2) := by decide +kernel
theorem dL_law_257 : decode cL_law 257 = .ok (.bipush 54, 2) := by decide +kernel
theorem dL_law_259 : decode cL_law 259 = .ok (.if_icmp .ne 7, 3) := by decide +kernel
theorem dL_law_262 : decode cL_law 262 = .ok (.iconst 1, 1) := by decide +kernel
theorem dL_law_263 : decode cL_law 263 = .ok (.goto 4, 3) := by decide +kernel
theorem dL_law_266 : decode cL_law 266 = .ok (.iconst 0, 1) := by decide +kernel
theorem dL_law_267 : decode cL_law 267 = .ok (.istore 13, 2) := by decide +kernel
theorem dL_law_269 : decode cL_law 269 = .ok (.iload 12, 2) := by decide +kernel
theorem dL_law_271 : decode cL_law 271 = .ok (.ifCond .le 19, 3) := by decide +kernel
theorem dL_law_274 : decode cL_law 274 = .ok (.iload 13, 2) := by decide +kernel
theorem dL_law_276 : decode cL_law 276 = .ok (.ifCond .ne 14, 3) := by decide +kernel
theorem dL_law_279 : decode cL_law 279 = .ok (.iload 6, 2) := by decide +kernel
theorem dL_law_281 : decode cL_law 281 = .ok (.bipush 40, 2) := by decide +kernel
theorem dL_law_283 : decode cL_law 283 = .ok (.if_icmp .ne 7, 3) := by decide +kernel
theorem dL_law_286 : decode cL_law 286 = .ok (.iconst 1, 1) := by decide +kernel
theorem dL_law_287 : decode cL_law 287 = .ok (.goto 4, 3) := by decide +kernel
theorem dL_law_290 : decode cL_law 290 = .ok (.iconst 0, 1) := by decide +kernel
theorem dL_law_291 : decode cL_law 291 = .ok (.istore 14, 2) := by decide +kernel
theorem dL_law_293 : decode cL_law 293 = .ok (.iload 12, 2) := by decide +kernel
theorem dL_law_295 : decode cL_law 295 = .ok (.ifCond .le 19, 3) := by decide +kernel
theorem dL_law_298 : decode cL_law 298 = .ok (.iload 13, 2) := by decide +kernel
theorem dL_law_300 : decode cL_law 300 = .ok (.ifCond .ne 14, 3) := by decide +kernel
theorem dL_law_303 : decode cL_law 303 = .ok (.iload 6, 2) := by decide +kernel
theorem dL_law_305 : decode cL_law 305 = .ok (.bipush 40, 2) := by decide +kernel
theorem dL_law_307 : decode cL_law 307 = .ok (.if_icmp .ge 7, 3) := by decide +kernel
theorem dL_law_310 : decode cL_law 310 = .ok (.iconst 1, 1) := by decide +kernel
theorem dL_law_311 : decode cL_law 311 = .ok (.goto 4, 3) := by decide +kernel
theorem dL_law_314 : decode cL_law 314 = .ok (.iconst 0, 1) := by decide +kernel
theorem dL_law_315 : decode cL_law 315 = .ok (.istore 15, 2) := by decide +kernel
theorem dL_law_317 : decode cL_law 317 = .ok (.aload_n 1, 1) := by decide +kernel
theorem dL_law_318 : decode cL_law 318 = .ok (.iconst 0, 1) := by decide +kernel
theorem dL_law_319 : decode cL_law 319 = .ok (.invokevirtual 103, 3) := by decide +kernel
theorem dL_law_322 : decode cL_law 322 = .ok (.iload 13, 2) := by decide +kernel
theorem dL_law_324 : decode cL_law 324 = .ok (.ifCond .eq 15, 3) := by decide +kernel
theorem dL_law_327 : decode cL_law 327 = .ok (.bipush 20, 2) := by decide +kernel
theorem dL_law_329 : decode cL_law 329 = .ok (.iload 5, 2) := by decide +kernel
theorem dL_law_331 : decode cL_law 331 = .ok (.iconst 1, 1) := by decide +kernel
theorem dL_law_332 : decode cL_law 332 = .ok (.iadd, 1) := by decide +kernel
theorem dL_law_333 : decode cL_law 333 = .ok (.invokestatic 116, 3) := by decide +kernel
theorem dL_law_336 : decode cL_law 336 = .ok (.goto 5, 3) := by decide +kernel
theorem dL_law_339 : decode cL_law 339 = .ok (.iload 5, 2) := by decide +kernel
theorem dL_law_341 : decode cL_law 341 = .ok (.if_icmp .ne 55, 3) := by decide +kernel
theorem dL_law_344 : decode cL_law 344 = .ok (.aload_n 1, 1) := by decide +kernel
theorem dL_law_345 : decode cL_law 345 = .ok (.bipush 8, 2) := by decide +kernel
theorem dL_law_347 : decode cL_law 347 = .ok (.invokevirtual 103, 3) := by decide +kernel
theorem dL_law_350 : decode cL_law 350 = .ok (.aload 7, 2) := by decide +kernel
theorem dL_law_352 : decode cL_law 352 = .ok (.bipush 8, 2) := by decide +kernel
theorem dL_law_354 : decode cL_law 354 = .ok (.iaload, 1) := by decide +kernel
theorem dL_law_355 : decode cL_law 355 = .ok (.iload 14, 2) := by decide +kernel
theorem dL_law_357 : decode cL_law 357 = .ok (.ifCond .eq 7, 3) := by decide +kernel
theorem dL_law_360 : decode cL_law 360 = .ok (.iconst 1, 1) := by decide +kernel
theorem dL_law_361 : decode cL_law 361 = .ok (.goto 4, 3) := by decide +kernel
theorem dL_law_364 : decode cL_law 364 = .ok (.iconst 0, 1) := by decide +kernel
theorem dL_law_365 : decode cL_law 365 = .ok (.iadd, 1) := by decide +kernel
theorem dL_law_366 : decode cL_law 366 = .ok (.if_icmp .ne 30, 3) := by decide +kernel
theorem dL_law_369 : decode cL_law 369 = .ok (.aload_n 1, 1) := by decide +kernel
theorem dL_law_370 : decode cL_law 370 = .ok (.bipush 10, 2) := by decide +kernel
theorem dL_law_372 : decode cL_law 372 = .ok (.invokevirtual 103, 3) := by decide +kernel
theorem dL_law_375 : decode cL_law 375 = .ok (.aload 7, 2) := by decide +kernel
theorem dL_law_377 : decode cL_law 377 = .ok (.bipush 10, 2) := by decide +kernel
theorem dL_law_379 : decode cL_law 379 = .ok (.iaload, 1) := by decide +kernel
theorem dL_law_380 : decode cL_law 380 = .ok (.iload 11, 2) := by decide +kernel
theorem dL_law_382 : decode cL_law 382 = .ok (.bipush 8, 2) := by decide +kernel
theorem dL_law_384 : decode cL_law 384 = .ok (.if_icmp .ne 7, 3) := by decide +kernel
theorem dL_law_387 : decode cL_law 387 = .ok (.iconst 1, 1) := by decide +kernel
theorem dL_law_388 : decode cL_law 388 = .ok (.goto 4, 3) := by decide +kernel
theorem dL_law_391 : decode cL_law 391 = .ok (.iconst 0, 1) := by decide +kernel
theorem dL_law_392 : decode cL_law 392 = .ok (.iadd, 1) := by decide +kernel
theorem dL_law_393 : decode cL_law 393 = .ok (.if_icmp .eq 5, 3) := by decide +kernel
theorem dL_law_396 : decode cL_law 396 = .ok (.iconst 0, 1) := by decide +kernel
theorem dL_law_397 : decode cL_law 397 = .ok (.ireturn, 1) := by decide +kernel
theorem dL_law_398 : decode cL_law 398 = .ok (.aload_n 1, 1) := by decide +kernel
theorem dL_law_399 : decode cL_law 399 = .ok (.iconst 1, 1) := by decide +kernel
theorem dL_law_400 : decode cL_law 400 = .ok (.invokevirtual 103, 3) := by decide +kernel
theorem dL_law_403 : decode cL_law 403 = .ok (.aload 7, 2) := by decide +kernel
theorem dL_law_405 : decode cL_law 405 = .ok (.iconst 1, 1) := by decide +kernel
theorem dL_law_406 : decode cL_law 406 = .ok (.iaload, 1) := by decide +kernel
theorem dL_law_407 : decode cL_law 407 = .ok (.iload 15, 2) := by decide +kernel
theorem dL_law_409 : decode cL_law 409 = .ok (.ifCond .eq 7, 3) := by decide +kernel
theorem dL_law_412 : decode cL_law 412 = .ok (.iconst 1, 1) := by decide +kernel
theorem dL_law_413 : decode cL_law 413 = .ok (.goto 4, 3) := by decide +kernel
theorem dL_law_416 : decode cL_law 416 = .ok (.iconst 0, 1) := by decide +kernel
theorem dL_law_417 : decode cL_law 417 = .ok (.iadd, 1) := by decide +kernel
theorem dL_law_418 : decode cL_law 418 = .ok (.iload 13, 2) := by decide +kernel
theorem dL_law_420 : decode cL_law 420 = .ok (.ifCond .eq 15, 3) := by decide +kernel
theorem dL_law_423 : decode cL_law 423 = .ok (.iload 5, 2) := by decide +kernel
theorem dL_law_425 : decode cL_law 425 = .ok (.bipush 20, 2) := by decide +kernel
theorem dL_law_427 : decode cL_law 427 = .ok (.if_icmp .ne 8, 3) := by decide +kernel
theorem dL_law_430 : decode cL_law 430 = .ok (.iload 10, 2) := by decide +kernel
theorem dL_law_432 : decode cL_law 432 = .ok (.goto 4, 3) := by decide +kernel
theorem dL_law_435 : decode cL_law 435 = .ok (.iconst 0, 1) := by decide +kernel
theorem dL_law_436 : decode cL_law 436 = .ok (.isub, 1) := by decide +kernel
theorem dL_law_437 : decode cL_law 437 = .ok (.if_icmp .eq 5, 3) := by decide +kernel
theorem dL_law_440 : decode cL_law 440 = .ok (.iconst 0, 1) := by decide +kernel
theorem dL_law_441 : decode cL_law 441 = .ok (.ireturn, 1) := by decide +kernel
theorem dL_law_442 : decode cL_law 442 = .ok (.aload_n 1, 1) := by decide +kernel
theorem dL_law_443 : decode cL_law 443 = .ok (.aload_n 1, 1) := by decide +kernel
theorem dL_law_444 : decode cL_law 444 = .ok (.iconst 0, 1) := by decide +kernel
theorem dL_law_445 : decode cL_law 445 = .ok (.invokevirtual 103, 3) := by decide +kernel
theorem dL_law_448 : decode cL_law 448 = .ok (.iconst 1, 1) := by decide +kernel
theorem dL_law_449 : decode cL_law 449 = .ok (.isub, 1) := by decide +kernel
theorem dL_law_450 : decode cL_law 450 = .ok (.invokevirtual 106, 3) := by decide +kernel
theorem dL_law_453 : decode cL_law 453 = .ok (.iload 13, 2) := by decide +kernel
theorem dL_law_455 : decode cL_law 455 = .ok (.ifCond .eq 7, 3) := by decide +kernel
theorem dL_law_458 : decode cL_law 458 = .ok (.iconst 0, 1) := by decide +kernel
theorem dL_law_459 : decode cL_law 459 = .ok (.goto 17, 3) := by decide +kernel
theorem dL_law_462 : decode cL_law 462 = .ok (.iload 15, 2) := by decide +kernel
theorem dL_law_464 : decode cL_law 464 = .ok (.ifCond .eq 10, 3) := by decide +kernel
theorem dL_law_467 : decode cL_law 467 = .ok (.iload 6, 2) := by decide +kernel
theorem dL_law_469 : decode cL_law 469 = .ok (.iconst 1, 1) := by decide +kernel
theorem dL_law_470 : decode cL_law 470 = .ok (.iadd, 1) := by decide +kernel
theorem dL_law_471 : decode cL_law 471 = .ok (.goto 5, 3) := by decide +kernel
theorem dL_law_474 : decode cL_law 474 = .ok (.iload 6, 2) := by decide +kernel
theorem dL_law_476 : decode cL_law 476 = .ok (.if_icmp .ne 23, 3) := by decide +kernel
theorem dL_law_479 : decode cL_law 479 = .ok (.iload 15, 2) := by decide +kernel
theorem dL_law_481 : decode cL_law 481 = .ok (.ifCond .eq 20, 3) := by decide +kernel
theorem dL_law_484 : decode cL_law 484 = .ok (.aload_n 1, 1) := by decide +kernel
theorem dL_law_485 : decode cL_law 485 = .ok (.iload 5, 2) := by decide +kernel
theorem dL_law_487 : decode cL_law 487 = .ok (.iconst 1, 1) := by decide +kernel
theorem dL_law_488 : decode cL_law 488 = .ok (.isub, 1) := by decide +kernel
theorem dL_law_489 : decode cL_law 489 = .ok (.iload 6, 2) := by decide +kernel
theorem dL_law_491 : decode cL_law 491 = .ok (.invokevirtual 121, 3) := by decide +kernel
theorem dL_law_494 : decode cL_law 494 = .ok (.iload 12, 2) := by decide +kernel
theorem dL_law_496 : decode cL_law 496 = .ok (.if_icmp .eq 5, 3) := by decide +kernel
theorem dL_law_499 : decode cL_law 499 = .ok (.iconst 0, 1) := by decide +kernel
theorem dL_law_500 : decode cL_law 500 = .ok (.ireturn, 1) := by decide +kernel
theorem dL_law_501 : decode cL_law 501 = .ok (.iload 11, 2) := by decide +kernel
theorem dL_law_503 : decode cL_law 503 = .ok (.bipush 27, 2) := by decide +kernel
theorem dL_law_505 : decode cL_law 505 = .ok (.if_icmp .ne 7, 3) := by decide +kernel
theorem dL_law_508 : decode cL_law 508 = .ok (.iconst 1, 1) := by decide +kernel
theorem dL_law_509 : decode cL_law 509 = .ok (.goto 39, 3) := by decide +kernel
theorem dL_law_512 : decode cL_law 512 = .ok (.iload 11, 2) := by decide +kernel
theorem dL_law_514 : decode cL_law 514 = .ok (.bipush 31, 2) := by decide +kernel
theorem dL_law_516 : decode cL_law 516 = .ok (.if_icmp .eq 24, 3) := by decide +kernel
theorem dL_law_519 : decode cL_law 519 = .ok (.iload 11, 2) := by decide +kernel
theorem dL_law_521 : decode cL_law 521 = .ok (.iconst 2, 1) := by decide +kernel
theorem dL_law_522 : decode cL_law 522 = .ok (.if_icmp .eq 18, 3) := by decide +kernel
theorem dL_law_525 : decode cL_law 525 = .ok (.iload 11, 2) := by decide +kernel
theorem dL_law_527 : decode cL_law 527 = .ok (.iconst 4, 1) := by decide +kernel
theorem dL_law_528 : decode cL_law 528 = .ok (.if_icmp .ne 16, 3) := by decide +kernel
theorem dL_law_531 : decode cL_law 531 = .ok (.aload 7, 2) := by decide +kernel
theorem dL_law_533 : decode cL_law 533 = .ok (.bipush 9, 2) := by decide +kernel
theorem dL_law_535 : decode cL_law 535 = .ok (.iaload, 1) := by decide +kernel
theorem dL_law_536 : decode cL_law 536 = .ok (.iconst 1, 1) := by decide +kernel
theorem dL_law_537 : decode cL_law 537 = .ok (.if_icmp .ne 7, 3) := by decide +kernel
theorem dL_law_540 : decode cL_law 540 = .ok (.iconst 0, 1) := by decide +kernel
theorem dL_law_541 : decode cL_law 541 = .ok (.goto 7, 3) := by decide +kernel
theorem dL_law_544 : decode cL_law 544 = .ok (.aload 7, 2) := by decide +kernel
theorem dL_law_546 : decode cL_law 546 = .ok (.iconst 2, 1) := by decide +kernel
theorem dL_law_547 : decode cL_law 547 = .ok (.iaload, 1) := by decide +kernel
theorem dL_law_548 : decode cL_law 548 = .ok (.istore 16, 2) := by decide +kernel
theorem dL_law_550 : decode cL_law 550 = .ok (.aload_n 1, 1) := by decide +kernel
theorem dL_law_551 : decode cL_law 551 = .ok (.iconst 2, 1) := by decide +kernel
theorem dL_law_552 : decode cL_law 552 = .ok (.invokevirtual 103, 3) := by decide +kernel
theorem dL_law_555 : decode cL_law 555 = .ok (.iload 16, 2) := by decide +kernel
theorem dL_law_557 : decode cL_law 557 = .ok (.if_icmp .eq 5, 3) := by decide +kernel
theorem dL_law_560 : decode cL_law 560 = .ok (.iconst 0, 1) := by decide +kernel
theorem dL_law_561 : decode cL_law 561 = .ok (.ireturn, 1) := by decide +kernel
theorem dL_law_562 : decode cL_law 562 = .ok (.iload_n 3, 1) := by decide +kernel
theorem dL_law_563 : decode cL_law 563 = .ok (.iconst 4, 1) := by decide +kernel
theorem dL_law_564 : decode cL_law 564 = .ok (.irem, 1) := by decide +kernel
theorem dL_law_565 : decode cL_law 565 = .ok (.iconst 3, 1) := by decide +kernel
theorem dL_law_566 : decode cL_law 566 = .ok (.if_icmp .ne 290, 3) := by decide +kernel
theorem dL_law_569 : decode cL_law 569 = .ok (.aload_n 1, 1) := by decide +kernel
theorem dL_law_570 : decode cL_law 570 = .ok (.iconst 4, 1) := by decide +kernel
theorem dL_law_571 : decode cL_law 571 = .ok (.invokevirtual 103, 3) := by decide +kernel
theorem dL_law_574 : decode cL_law 574 = .ok (.istore 17, 2) := by decide +kernel
theorem dL_law_576 : decode cL_law 576 = .ok (.iload 17, 2) := by decide +kernel
theorem dL_law_578 : decode cL_law 578 = .ok (.aload_n 1, 1) := by decide +kernel
theorem dL_law_579 : decode cL_law 579 = .ok (.iconst 5, 1) := by decide +kernel
theorem dL_law_580 : decode cL_law 580 = .ok (.invokevirtual 103, 3) := by decide +kernel
theorem dL_law_583 : decode cL_law 583 = .ok (.isub, 1) := by decide +kernel
theorem dL_law_584 : decode cL_law 584 = .ok (.istore 18, 2) := by decide +kernel
theorem dL_law_586 : decode cL_law 586 = .ok (.aload_n 1, 1) := by decide +kernel
theorem dL_law_587 : decode cL_law 587 = .ok (.invokevirtual 124, 3) := by decide +kernel
theorem dL_law_590 : decode cL_law 590 = .ok (.istore 19, 2) := by decide +kernel
theorem dL_law_592 : decode cL_law 592 = .ok (.aload_n 1, 1) := by decide +kernel
theorem dL_law_593 : decode cL_law 593 = .ok (.invokevirtual 128, 3) := by decide +kernel
theorem dL_law_596 : decode cL_law 596 = .ok (.istore 20, 2) := by decide +kernel
theorem dL_law_598 : decode cL_law 598 = .ok (.aload_n 1, 1) := by decide +kernel
theorem dL_law_599 : decode cL_law 599 = .ok (.bipush 7, 2) := by decide +kernel
theorem dL_law_601 : decode cL_law 601 = .ok (.invokevirtual 103, 3) := by decide +kernel
theorem dL_law_604 : decode cL_law 604 = .ok (.istore 21, 2) := by decide +kernel
theorem dL_law_606 : decode cL_law 606 = .ok (.iload 19, 2) := by decide +kernel
theorem dL_law_608 : decode cL_law 608 = .ok (.ifCond .lt 22, 3) := by decide +kernel
theorem dL_law_611 : decode cL_law 611 = .ok (.iload 19, 2) := by decide +kernel
theorem dL_law_613 : decode cL_law 613 = .ok (.iload 18, 2) := by decide +kernel
theorem dL_law_615 : decode cL_law 615 = .ok (.if_icmp .gt 15, 3) := by decide +kernel
theorem dL_law_618 : decode cL_law 618 = .ok (.iload 20, 2) := by decide +kernel
theorem dL_law_620 : decode cL_law 620 = .ok (.ifCond .lt 10, 3) := by decide +kernel
theorem dL_law_623 : decode cL_law 623 = .ok (.iload 20, 2) := by decide +kernel
theorem dL_law_625 : decode cL_law 625 = .ok (.iload 17, 2) := by decide +kernel
theorem dL_law_627 : decode cL_law 627 = .ok (.if_icmp .le 5, 3) := by decide +kernel
theorem dL_law_630 : decode cL_law 630 = .ok (.iconst 0, 1) := by decide +kernel
theorem dL_law_631 : decode cL_law 631 = .ok (.ireturn, 1) := by decide +kernel
theorem dL_law_632 : decode cL_law 632 = .ok (.iload 17, 2) := by decide +kernel
theorem dL_law_634 : decode cL_law 634 = .ok (.ifCond .le 105, 3) := by decide +kernel
theorem dL_law_637 : decode cL_law 637 = .ok (.iload 4, 2) := by decide +kernel
theorem dL_law_639 : decode cL_law 639 = .ok (.iconst 2, 1) := by decide +kernel
theorem dL_law_640 : decode cL_law 640 = .ok (.ishr, 1) := by decide +kernel
theorem dL_law_641 : decode cL_law 641 = .ok (.iload 17, 2) := by decide +kernel
theorem dL_law_643 : decode cL_law 643 = .ok (.invokestatic 25, 3) := by decide +kernel
theorem dL_law_646 : decode cL_law 646 = .ok (.istore 22, 2) := by decide +kernel
theorem dL_law_648 : decode cL_law 648 = .ok (.aload_n 1, 1) := by decide +kernel
theorem dL_law_649 : decode cL_law 649 = .ok (.iload 22, 2) := by decide +kernel
theorem dL_law_651 : decode cL_law 651 = .ok (.invokevirtual 131, 3) := by decide +kernel
theorem dL_law_654 : decode cL_law 654 = .ok (.istore 23, 2) := by decide +kernel
theorem dL_law_656 : decode cL_law 656 = .ok (.aload_n 1, 1) := by decide +kernel
theorem dL_law_657 : decode cL_law 657 = .ok (.iload 22, 2) := by decide +kernel
theorem dL_law_659 : decode cL_law 659 = .ok (.invokevirtual 77, 3) := by decide +kernel
theorem dL_law_662 : decode cL_law 662 = .ok (.iload 23, 2) := by decide +kernel
theorem dL_law_664 : decode cL_law 664 = .ok (.if_icmp .ne 58, 3) := by decide +kernel
theorem dL_law_667 : decode cL_law 667 = .ok (.aload_n 1, 1) := by decide +kernel
theorem dL_law_668 : decode cL_law 668 = .ok (.iload 22, 2) := by decide +kernel
theorem dL_law_670 : decode cL_law 670 = .ok (.invokevirtual 131, 3) := by decide +kernel
theorem dL_law_673 : decode cL_law 673 = .ok (.bipush 31, 2) := by decide +kernel
theorem dL_law_675 : decode cL_law 675 = .ok (.if_icmp .ne 47, 3) := by decide +kernel
theorem dL_law_678 : decode cL_law 678 = .ok (.aload_n 1, 1) := by decide +kernel
theorem dL_law_679 : decode cL_law 679 = .ok (.iload 22, 2) := by decide +kernel
theorem dL_law_681 : decode cL_law 681 = .ok (.invokevirtual 133, 3) := by decide +kernel
theorem dL_law_684 : decode cL_law 684 = .ok (.ifCond .ne 38, 3) := by decide +kernel
theorem dL_law_687 : decode cL_law 687 = .ok (.iload 22, 2) := by decide +kernel
theorem dL_law_689 : decode cL_law 689 = .ok (.iconst 1, 1) := by decide +kernel
theorem dL_law_690 : decode cL_law 690 = .ok (.iadd, 1) := by decide +kernel
theorem dL_law_691 : decode cL_law 691 = .ok (.iload 17, 2) := by decide +kernel
theorem dL_law_693 : decode cL_law 693 = .ok (.if_icmp .ge 31, 3) := by decide +kernel
theorem dL_law_696 : decode cL_law 696 = .ok (.aload_n 1, 1) := by decide +kernel
theorem dL_law_697 : decode cL_law 697 = .ok (.iload 22, 2) := by decide +kernel
theorem dL_law_699 : decode cL_law 699 = .ok (.iconst 1, 1) := by decide +kernel
theorem dL_law_700 : decode cL_law 700 = .ok (.iadd, 1) := by decide +kernel
theorem dL_law_701 : decode cL_law 701 = .ok (.invokevirtual 133, 3) := by decide +kernel
theorem dL_law_704 : decode cL_law 704 = .ok (.bipush 26, 2) := by decide +kernel
theorem dL_law_706 : decode cL_law 706 = .ok (.if_icmp .le 18, 3) := by decide +kernel
theorem dL_law_709 : decode cL_law 709 = .ok (.aload_n 1, 1) := by decide +kernel
theorem dL_law_710 : decode cL_law 710 = .ok (.iload 22, 2) := by decide +kernel
theorem dL_law_712 : decode cL_law 712 = .ok (.iconst 1, 1) := by decide +kernel
theorem dL_law_713 : decode cL_law 713 = .ok (.iadd, 1) := by decide +kernel
theorem dL_law_714 : decode cL_law 714 = .ok (.invokevirtual 133, 3) := by decide +kernel
theorem dL_law_717 : decode cL_law 717 = .ok (.bipush 53, 2) := by decide +kernel
theorem dL_law_719 : decode cL_law 719 = .ok (.if_icmp .ge 5, 3) := by decide +kernel
theorem dL_law_722 : decode cL_law 722 = .ok (.iconst 0, 1) := by decide +kernel
theorem dL_law_723 : decode cL_law 723 = .ok (.ireturn, 1) := by decide +kernel
theorem dL_law_724 : decode cL_law 724 = .ok (.aload_n 2, 1) := by decide +kernel
theorem dL_law_725 : decode cL_law 725 = .ok (.getfield 19, 3) := by decide +kernel
theorem dL_law_728 : decode cL_law 728 = .ok (.iload 22, 2) := by decide +kernel
theorem dL_law_730 : decode cL_law 730 = .ok (.bipush 31, 2) := by decide +kernel
theorem dL_law_732 : decode cL_law 732 = .ok (.iastore, 1) := by decide +kernel
theorem dL_law_733 : decode cL_law 733 = .ok (.aload_n 1, 1) := by decide +kernel
theorem dL_law_734 : decode cL_law 734 = .ok (.invokevirtual 124, 3) := by decide +kernel
theorem dL_law_737 : decode cL_law 737 = .ok (.istore 19, 2) := by decide +kernel
theorem dL_law_739 : decode cL_law 739 = .ok (.aload_n 1, 1) := by decide +kernel
theorem dL_law_740 : decode cL_law 740 = .ok (.bipush 120, 2) := by decide +kernel
theorem dL_law_742 : decode cL_law 742 = .ok (.invokevirtual 86, 3) := by decide +kernel
theorem dL_law_745 : decode cL_law 745 = .ok (.istore 22, 2) := by decide +kernel
theorem dL_law_747 : decode cL_law 747 = .ok (.iload 22, 2) := by decide +kernel
theorem dL_law_749 : decode cL_law 749 = .ok (.iload 18, 2) := by decide +kernel
theorem dL_law_751 : decode cL_law 751 = .ok (.if_icmp .ne 34, 3) := by decide +kernel
theorem dL_law_754 : decode cL_law 754 = .ok (.aload_n 1, 1) := by decide +kernel
theorem dL_law_755 : decode cL_law 755 = .ok (.bipush 7, 2) := by decide +kernel
theorem dL_law_757 : decode cL_law 757 = .ok (.invokevirtual 103, 3) := by decide +kernel
theorem dL_law_760 : decode cL_law 760 = .ok (.iload 21, 2) := by decide +kernel
theorem dL_law_762 : decode cL_law 762 = .ok (.iload 19, 2) := by decide +kernel
theorem dL_law_764 : decode cL_law 764 = .ok (.iadd, 1) := by decide +kernel
theorem dL_law_765 : decode cL_law 765 = .ok (.if_icmp .ne 20, 3) := by decide +kernel
theorem dL_law_768 : decode cL_law 768 = .ok (.aload_n 1, 1) := by decide +kernel
theorem dL_law_769 : decode cL_law 769 = .ok (.iconst 5, 1) := by decide +kernel
theorem dL_law_770 : decode cL_law 770 = .ok (.invokevirtual 103, 3) := by decide +kernel
theorem dL_law_773 : decode cL_law 773 = .ok (.iload 17, 2) := by decide +kernel
theorem dL_law_775 : decode cL_law 775 = .ok (.if_icmp .ne 10, 3) := by decide +kernel
theorem dL_law_778 : decode cL_law 778 = .ok (.aload_n 1, 1) := by decide +kernel
theorem dL_law_779 : decode cL_law 779 = .ok (.invokevirtual 124, 3) := by decide +kernel
theorem dL_law_782 : decode cL_law 782 = .ok (.ifCond .eq 5, 3) := by decide +kernel
theorem dL_law_785 : decode cL_law 785 = .ok (.iconst 0, 1) := by decide +kernel
theorem dL_law_786 : decode cL_law 786 = .ok (.ireturn, 1) := by decide +kernel
theorem dL_law_787 : decode cL_law 787 = .ok (.aload_n 2, 1) := by decide +kernel
theorem dL_law_788 : decode cL_law 788 = .ok (.getfield 80, 3) := by decide +kernel
theorem dL_law_791 : decode cL_law 791 = .ok (.iload 17, 2) := by decide +kernel
theorem dL_law_793 : decode cL_law 793 = .ok (.if_icmp .ge 30, 3) := by decide +kernel
theorem dL_law_796 : decode cL_law 796 = .ok (.aload_n 2, 1) := by decide +kernel
theorem dL_law_797 : decode cL_law 797 = .ok (.aload_n 2, 1) := by decide +kernel
theorem dL_law_798 : decode cL_law 798 = .ok (.getfield 19, 3) := by decide +kernel
theorem dL_law_801 : decode cL_law 801 = .ok (.aload_n 2, 1) := by decide +kernel
theorem dL_law_802 : decode cL_law 802 = .ok (.getfield 80, 3) := by decide +kernel
theorem dL_law_805 : decode cL_law 805 = .ok (.iaload, 1) := by decide +kernel
theorem dL_law_806 : decode cL_law 806 = .ok (.invokevirtual 60, 3) := by decide +kernel
theorem dL_law_809 : decode cL_law 809 = .ok (.pop, 1) := by decide +kernel
theorem dL_law_810 : decode cL_law 810 = .ok (.aload_n 2, 1) := by decide +kernel
theorem dL_law_811 : decode cL_law 811 = .ok (.dup, 1) := by decide +kernel
theorem dL_law_812 : decode cL_law 812 = .ok (.getfield 80, 3) := by decide +kernel
theorem dL_law_815 : decode cL_law 815 = .ok (.iconst 1, 1) := by decide +kernel
theorem dL_law_816 : decode cL_law 816 = .ok (.iadd, 1) := by decide +kernel
theorem dL_law_817 : decode cL_law 817 = .ok (.putfield 80, 3) := by decide +kernel
theorem dL_law_820 : decode cL_law 820 = .ok (.goto (-33), 3) := by decide +kernel
theorem dL_law_823 : decode cL_law 823 = .ok (.aload_n 1, 1) := by decide +kernel
theorem dL_law_824 : decode cL_law 824 = .ok (.iload 4, 2) := by decide +kernel
theorem dL_law_826 : decode cL_law 826 = .ok (.iload 17, 2) := by decide +kernel
theorem dL_law_828 : decode cL_law 828 = .ok (.iconst 1, 1) := by decide +kernel
theorem dL_law_829 : decode cL_law 829 = .ok (.iadd, 1) := by decide +kernel
theorem dL_law_830 : decode cL_law 830 = .ok (.invokestatic 25, 3) := by decide +kernel
theorem dL_law_833 : decode cL_law 833 = .ok (.invokevirtual 83, 3) := by decide +kernel
theorem dL_law_836 : decode cL_law 836 = .ok (.iload 17, 2) := by decide +kernel
theorem dL_law_838 : decode cL_law 838 = .ok (.if_icmp .eq 5, 3) := by decide +kernel
theorem dL_law_841 : decode cL_law 841 = .ok (.iconst 0, 1) := by decide +kernel
theorem dL_law_842 : decode cL_law 842 = .ok (.ireturn, 1) := by decide +kernel
theorem dL_law_843 : decode cL_law 843 = .ok (.aload_n 2, 1) := by decide +kernel
theorem dL_law_844 : decode cL_law 844 = .ok (.iload 4, 2) := by decide +kernel
theorem dL_law_846 : decode cL_law 846 = .ok (.iload 17, 2) := by decide +kernel
theorem dL_law_848 : decode cL_law 848 = .ok (.iconst 1, 1) := by decide +kernel
theorem dL_law_849 : decode cL_law 849 = .ok (.iadd, 1) := by decide +kernel
theorem dL_law_850 : decode cL_law 850 = .ok (.invokestatic 25, 3) := by decide +kernel
theorem dL_law_853 : decode cL_law 853 = .ok (.putfield 80, 3) := by decide +kernel
theorem dL_law_856 : decode cL_law 856 = .ok (.iinc 3 1, 3) := by decide +kernel
theorem dL_law_859 : decode cL_law 859 = .ok (.goto (-837), 3) := by decide +kernel
theorem dL_law_862 : decode cL_law 862 = .ok (.aload_n 2, 1) := by decide +kernel
theorem dL_law_863 : decode cL_law 863 = .ok (.aload_n 1, 1) := by decide +kernel
theorem dL_law_864 : decode cL_law 864 = .ok (.invokevirtual 136, 3) := by decide +kernel
theorem dL_law_867 : decode cL_law 867 = .ok (.ireturn, 1) := by decide +kernel
abbrev vwCl : List vw_C := [(RX0, TX0, 2), (RX1, TX1, 3), (RX2, TX2, 3), (RX3, TX3, 10), (RX4, TX4, 14)]
end
section
/-! The base layer: a memory by roles. ad: the address of a role; g: what the cell of a role holds; N roles in all. -/
section MB
abbrev mC : Type := va_G × (Nat × Nat × Nat × Nat) × (Nat × Nat)
def mTys (k : mC) : List (ClassId × FieldType) := [(k.2.1.1, .int), (k.2.1.2.1, .object "TapePrinter$Row"), (k.2.1.2.2.1, .boolean), (k.2.1.2.2.2, .array .int)]
def cdT : List Nat := [0, 1, 3, 5, 6, 7, 9, 10, 11, 12, 13, 14, 15, 16, 17, 18, 19, 20, 21, 22, 23, 24, 25, 26, 28, 29, 30, 1, 3, 5, 6, 7, 9, 10, 11, 12, 13, 14, 15, 16, 17, 18, 19, 20, 21, 22, 23, 24, 25, 26, 28, 29, 30, 4, 2]
/-- the code of a character -/
def cd (x : Nat) : Nat := cdT.getD x 0
def chT : List Nat := [0, 1, 54, 2, 53, 3, 4, 5, 0, 6, 7, 8, 9, 10, 11, 12, 13, 14, 15, 16, 17, 18, 19, 20, 21, 22, 23, 0, 24, 25, 26, 0]
/-- the character of a code, by letters -/
def chL (c : Nat) : Nat := chT.getD c 0
def bI (b : Bool) : Int32 := if b then 1 else 0
theorem bI_nar (b : Bool) : narrow .boolean (.int (bI b)) = .int (bI b) := by cases b <;> rfl
theorem bI_fit (b : Bool) : fits .boolean (.int (bI b)) = true := by cases b <;> rfl
theorem bI_0 {b : Bool} (h : bI b = 0) : b = false := by cases b <;> first | rfl | exact absurd h (by decide)
theorem bI_1 {b : Bool} (h : ¬ bI b = 0) : b = true := by cases b <;> first | rfl | exact absurd rfl h
theorem bI_inj {a b : Bool} (h : bI a = bI b) : a = b := by cases a <;> cases b <;> first | rfl | exact absurd h (by decide)
def mST : List (Nat × String) := [(38, "no such character"), (50, "no such code"), (65, "no such place of the table"), (69, "too early or too late"), (72, "no such units"), (81, "no such play"), (101, "the tape is full"), (120, "the tape has no room"), (125, "no such place of the tape"), (133, "too few or too many"), (149, "no such line or place"), (151, "no such line"), (153, "nothing such is counted")]
def mNd : List MethodName := [Bundle.initS "java/lang/RuntimeException", Bundle.initS "java/lang/Exception", Bundle.initS Bundle.tN]
def mNx : List String := ["java/lang/IndexOutOfBoundsException", "java/lang/IllegalArgumentException", "java/lang/IllegalStateException"]
/-- words of the tables that no method's list holds: what is declared, what may be cast, the arrays of int arrays -/
def mNw (U : State) : Prop := (∀ x ∈ mNd, va_Nw (.declares x) U) ∧ (∀ C ∈ mNx, va_Nw (.castable C C) U) ∧ (Cond.arrayOver (.array .int)).before #[] U = true
theorem mNw.warm {s U : State} (hW : s.WarmedH U.vm) (h : mNw s) : mNw U :=
  ⟨fun x hx => va_Nw.warmD hW (h.1 x hx), fun C hC => va_Nw.warmC hW (h.2.1 C hC), over_moved hW.alike h.2.2⟩
def mK (k : mC) (A : Nat → Prop) (U : State) (H : Heap) : Prop :=
  va_K k.1 vwCl (mTys k) U ∧ (va_Z RX3 "CODES" "[I" (.ref k.2.2.1) A U H ∧ va_T .int k.2.2.1 55 (fun j => .int (nI (cd j))) A U H) ∧
  (va_Z RX3 "CHARACTERS" "[I" (.ref k.2.2.2) A U H ∧ va_T .int k.2.2.2 32 (fun j => .int (nI (chL j))) A U H) ∧
  (vx_Zq Bundle.tN "UNASSIGNED_STACK" Bundle.steD A U H ∧ vx_Zq Bundle.tN "SUPPRESSED_SENTINEL" Bundle.listD A U H) ∧ (∀ q ∈ mST, ∃ a : Nat, vk_R RX3 q.1 q.2 a U) ∧ mNw U
theorem mK.call {k : mC} {A A' : Nat → Prop} {s U : State} {H : Heap} {locs : List Loc} (h : mK k A s s.heap) (hS : va_S A s.heap H locs) (hA : ∀ q, A' q → A q) (hU : U.heap = H) (hW : s.WarmedH U.vm) : mK k A' U U.heap := by
  subst hU
  obtain ⟨h1, ⟨h2, h3⟩, ⟨h4, h5⟩, ⟨h6, h7⟩, h8, h9⟩ := h
  refine ⟨va_K.moved hW.alike h1, ⟨?_, ?_⟩, ⟨?_, ?_⟩, ⟨?_, ?_⟩, fun q hq => ?_, mNw.warm hW h9⟩
  · exact va_Z.narrow (va_Z.moved hW.alike (va_Z.kept h2 hS.2.1)) hA
  · exact va_T.narrow (va_T.moved hW.alike (va_T.kept h3 hS.2.1)) hA
  · exact va_Z.narrow (va_Z.moved hW.alike (va_Z.kept h4 hS.2.1)) hA
  · exact va_T.narrow (va_T.moved hW.alike (va_T.kept h5 hS.2.1)) hA
  · exact vx_Zq.narrow (vx_Zq.moved hW.alike (vx_Zq.kept h6 hS.2.1)) hA
  · exact vx_Zq.narrow (vx_Zq.moved hW.alike (vx_Zq.kept h7 hS.2.1)) hA
  · obtain ⟨a, ha⟩ := h8 q hq
    exact ⟨a, vk_R.warm hW ha⟩
theorem mK.blind {k : mC} {A : Nat → Prop} {U : State} {gg : JFrame} {mk : MethodId} {a : Array Value} (h : mK k A U U.heap) : mK k A (U.calling gg mk a) (U.calling gg mk a).heap :=
  mK.call (U := U.calling gg mk a) h va_S.rf (fun _ h => h) rfl (State.WarmedH.refl U)
/-- the world: the cell of each role -/
def mw (ad : Nat → Nat) (N : Nat) (g : Nat → va_E) : va_W := (List.range N).map (fun i => (ad i, g i))
theorem mw_at {ad : Nat → Nat} {N : Nat} {g : Nat → va_E} {i : Nat} (hi : i < N) : (mw ad N g)[i]? = some (ad i, g i) := by
  simp [mw, hi]
theorem mw_at' {ad : Nat → Nat} {N : Nat} {g : Nat → va_E} {i : Nat} {e : va_E} (hi : i < N) (he : g i = e) : (mw ad N g)[i]? = some (ad i, e) := by
  rw [mw_at hi, he]
theorem mw_lt {ad : Nat → Nat} {N : Nat} {g : Nat → va_E} {i : Nat} {q : Nat × va_E} (h : (mw ad N g)[i]? = some q) : i < N ∧ q = (ad i, g i) := by
  have h1 := (List.getElem?_eq_some_iff.mp h).1
  have h2 : i < N := by simpa [mw] using h1
  refine ⟨h2, ?_⟩
  rw [mw_at h2] at h
  exact (Option.some.inj h).symm
theorem mw_set {ad : Nat → Nat} {N : Nat} {g : Nat → va_E} {i : Nat} {e : va_E} (hi : i < N) : (mw ad N g).set i (ad i, e) = mw ad N (va_up g i e) := by
  apply List.ext_getElem?
  intro j
  by_cases hj : j = i
  · subst hj
    rw [mw_at hi, va_up_self, List.getElem?_set_self (by simpa [mw] using hi)]
  · rw [List.getElem?_set_ne (Ne.symm hj)]
    by_cases hN : j < N
    · rw [mw_at hN, mw_at hN, va_up_ne _ _ hj]
    · rw [List.getElem?_eq_none (by simp [mw]; omega), List.getElem?_eq_none (by simp [mw]; omega)]
theorem mw_push {ad : Nat → Nat} {N : Nat} {g : Nat → va_E} {q : Nat} {e : va_E} : mw ad N g ++ [(q, e)] = mw (va_up ad N q) (N + 1) (va_up g N e) := by
  simp only [mw, List.range_succ, List.map_append, List.map_cons, List.map_nil, va_up_self]
  congr 1
  apply List.map_congr_left
  intro j hj
  have h1 : j < N := List.mem_range.mp hj
  have h2 : j ≠ N := by omega
  rw [va_up_ne _ _ h2, va_up_ne _ _ h2]
def mJ (ad : Nat → Nat) (N : Nat) : Prop := ∀ i j, i < N → j < N → ad i = ad j → i = j
theorem mw_D {ad : Nat → Nat} {N : Nat} {g : Nat → va_E} {A : Nat → Prop} (hJ : mJ ad N) (hA : ∀ i, i < N → A (ad i)) : va_D A (mw ad N g) := by
  refine ⟨fun i j p q hi hj h => ?_, fun i q hi => ?_⟩
  · obtain ⟨h1, rfl⟩ := mw_lt hi
    obtain ⟨h2, rfl⟩ := mw_lt hj
    exact hJ i j h1 h2 h
  · obtain ⟨h1, rfl⟩ := mw_lt hi
    exact hA i h1
theorem mw_J {ad : Nat → Nat} {N : Nat} {g : Nat → va_E} {A : Nat → Prop} (h : va_D A (mw ad N g)) : mJ ad N ∧ ∀ i, i < N → A (ad i) :=
  ⟨fun i j hi hj e => h.1 i j _ _ (mw_at hi) (mw_at hj) e, fun i hi => h.2 i _ (mw_at hi)⟩
def mA (ad : Nat → Nat) (N sz : Nat) : Nat → Prop := fun q => (∃ i, i < N ∧ ad i = q) ∨ sz ≤ q
/-- what stays all through a method: the tables, the roles apart -/
def mE (k : mC) (ad : Nat → Nat) (N : Nat) (A : Nat → Prop) (s : State) : Prop := mK k A s s.heap ∧ mJ ad N ∧ (∀ i, i < N → A (ad i)) ∧ (∀ q, s.heap.size ≤ q → A q)
/-- the world now -/
def mI (k : mC) (ad : Nat → Nat) (N : Nat) (g : Nat → va_E) (A : Nat → Prop) (s : State) (H : Heap) (locs : List Loc) : Prop := va_P k.1 vwCl (mw ad N g) H ∧ va_S A s.heap H locs
theorem mA_sub {k : mC} {ad : Nat → Nat} {N : Nat} {g : Nat → va_E} {A : Nat → Prop} {s : State} {H : Heap} {locs : List Loc} (hE : mE k ad N A s) (hI : mI k ad N g A s H locs) : ∀ q, mA ad N H.size q → A q := by
  intro q h
  rcases h with ⟨i, hi, rfl⟩ | h
  · exact hE.2.2.1 i hi
  · exact hE.2.2.2 q (Nat.le_trans hI.2.1 h)
def mPc (k : mC) (ad : Nat → Nat) (N : Nat) (g : Nat → va_E) (sz : Nat) (av : List Value) : Array Value → State → Prop := va_Pc av (fun U => U.heap.size = sz ∧ mK k (mA ad N sz) U U.heap ∧ va_P k.1 vwCl (mw ad N g) U.heap ∧ mJ ad N)
theorem mPc.blind {k : mC} {ad : Nat → Nat} {N : Nat} {g : Nat → va_E} {sz : Nat} {av : List Value} : FrameBlind (mPc k ad N g sz av) := fun a U gg mk h => ⟨h.1, h.2.1, mK.blind h.2.2.1, h.2.2.2.1, h.2.2.2.2⟩
def mB (k : mC) (ad : Nat → Nat) (N : Nat) (g : Nat → va_E) (t : State) : Prop := va_P k.1 vwCl (mw ad N g) t.heap
def mCi (k : mC) (l : Launch) (y : MethodName) (ws : List Cond) (rm : Room) (ad : Nat → Nat) (N : Nat) (g : Nat → va_E) (sz : Nat) (av : List Value) (post : Int32 → (Nat → va_E) → Prop) : Prop :=
  Met l y ws rm (mPc k ad N g sz av) (va_Qi post (mB k ad N) (mA ad N sz)) 0 0 (mA ad N sz)
def mCl (k : mC) (l : Launch) (y : MethodName) (ws : List Cond) (rm : Room) (ad : Nat → Nat) (N : Nat) (g : Nat → va_E) (sz : Nat) (av : List Value) (post : Int64 → (Nat → va_E) → Prop) : Prop :=
  Met l y ws rm (mPc k ad N g sz av) (va_Ql post (mB k ad N) (mA ad N sz)) 0 0 (mA ad N sz)
def mCv (k : mC) (l : Launch) (y : MethodName) (ws : List Cond) (rm : Room) (ad : Nat → Nat) (N : Nat) (g : Nat → va_E) (sz : Nat) (av : List Value) (post : (Nat → va_E) → Prop) : Prop :=
  Met l y ws rm (mPc k ad N g sz av) (va_Qv post (mB k ad N) (mA ad N sz)) 0 0 (mA ad N sz)
def mCq (k : mC) (l : Launch) (y : MethodName) (ws : List Cond) (rm : Room) (ad : Nat → Nat) (N : Nat) (g : Nat → va_E) (sz : Nat) (av : List Value) (post : Option Nat → (Nat → va_E) → Prop) : Prop :=
  Met l y ws rm (mPc k ad N g sz av) (va_Qq post (mB k ad N) (mA ad N sz)) 0 0 (mA ad N sz)
/-- a contract's body -/
theorem mOf {k : mC} {l : Launch} {y : MethodName} {ws ws' : List Cond} {rm : Room} {ad : Nat → Nat} {N : Nat} {g : Nat → va_E} {sz : Nat} {av : List Value} {cc : ByteArray} {maxL : Nat} {ret : Option FieldType} {Qc : Nat → Array Value → State → Outcome → State → Prop}
    (hy : plainName y.cls = true) (hw : ws = Cond.code y cc maxL ret :: ws') (hav : (lg_sl av).length ≤ maxL)
    (body : ∀ (p : Program) (e : Env) (s : State) (m : MethodId) (below : List Frame) (meth : Method) (c : Code), p.tables.exec = Jvm.exec → c.code = cc → meth.sig.returnType = ret → (∀ w ∈ ws, w.before av.toArray s = true) → s.vm.findClass y.cls = some m.cls → meth.locks = false → c.maxLocals = maxL → meth.name = y.name →
      mE k ad N (mA ad N s.heap.size) s → mI k ad N g (mA ad N s.heap.size) s s.heap [] → ∀ ls : Array Slot, lv_has ls maxL (lv_args 0 av) →
      W p l e rm s m av.toArray below meth c s.heap [] 0 0 (MQ below (Qc s.heap.size) av.toArray s 0 0 (mA ad N s.heap.size)) (F0 m 0 ls [])) :
    Met l y ws rm (mPc k ad N g sz av) (Qc sz) 0 0 (mA ad N sz) := by
  refine Met.ofW (cc := cc) (maxL := maxL) (ret := ret) hy hw ?_
  intro p e s m args below meth c s₁ B hml hv
  obtain ⟨rfl, hsz, hK, hP, hJ⟩ := hv
  subst hsz
  rw [lg_entry_eq]
  exact body p e s m below meth c B.exec B.bytes B.returns (atoms_spec (ws := ws) B.pre) (findClass_of_methodNamed B.named) B.notSynchronized hml (name_of_methodNamed B.named B.method).1 ⟨hK, hJ, fun i hi => Or.inl ⟨i, hi, rfl⟩, fun q hq => Or.inr hq⟩ ⟨hP, va_S.rf⟩ _ (lv_entry av hav)
section MR
variable {p : Program} {l : Launch} {e : Env} {R : Room} {s : State} {m : MethodId} {args : Array Value} {below : List Frame} {meth : Method} {c : Code} {H : Heap} {locs : List Loc} {cells slots : Nat} {Q : State → Prop}
variable {cc : ByteArray} {pc : Nat} {ls : Array Slot} {rest : List Value} {k : mC} {ad : Nat → Nat} {N : Nat} {g : Nat → va_E} {A : Nat → Prop}
theorem m_top {x y : Int32} (h : x = y) (kk : W p l e R s m args below meth c H locs cells slots Q (F0 m pc ls (.int y :: rest))) : W p l e R s m args below meth c H locs cells slots Q (F0 m pc ls (.int x :: rest)) := by rw [h]; exact kk
theorem m_topl {x y : Int64} (h : x = y) (kk : W p l e R s m args below meth c H locs cells slots Q (F0 m pc ls (.long y :: rest))) : W p l e R s m args below meth c H locs cells slots Q (F0 m pc ls (.long x :: rest)) := by rw [h]; exact kk
theorem m_get (hx : p.tables.exec = Jvm.exec) (hb : c.code = cc) {own C : String} {T : u_T} {N' ci index : Nat} {Ts : List Cond} (hts : ∀ w ∈ Ts, w.before args s = true) (hin : ∀ w ∈ u_ws C T N', w ∈ Ts) (hown : s.vm.findClass own = some m.cls)
    (hE : mE k ad N A s) (hI : mI k ad N g A s H locs) (i : Nat) (hi : i < N) {fs : List Value} (he : g i = .inr (ci, fs)) (hc : vwCl[ci]? = some (C, T, N')) (f : Nat) (hf : f < N') (hlink : (Cond.fieldLink own index (T f).1 (T f).2.1 (T f).2.2.1).before args s = true) {v : Value} (hv : fs[f]? = some v)
    (hdg : decode cc pc = .ok (.getfield index, 3)) (kk : W p l e R s m args below meth c H locs cells slots Q (F0 m (pc + 3) ls (v :: rest))) : W p l e R s m args below meth c H locs cells slots Q (F0 m pc ls (.ref (ad i) :: rest)) :=
  va_get (D := k.1) (cl := vwCl) (ref := (T f).1) hx hb hts hin hown hE.1.1 hI.1 i (mw_at' hi he) hc f hf hlink (fun _ h => h) hv hdg kk
theorem m_put (hx : p.tables.exec = Jvm.exec) (hb : c.code = cc) {own C : String} {T : u_T} {N' ci index : Nat} {Ts : List Cond} (hts : ∀ w ∈ Ts, w.before args s = true) (hin : ∀ w ∈ u_ws C T N', w ∈ Ts) (ty0 : Nat → FieldType) (hty : ∀ k, k < N' → parseFieldDescriptor (T k).2.2.1 = some (ty0 k)) (hnm : ∀ a, a < N' → ∀ b, b < N' → a ≠ b → (T a).2.1 ≠ (T b).2.1) (hown : s.vm.findClass own = some m.cls)
    (hE : mE k ad N A s) (hI : mI k ad N g A s H locs) (i : Nat) (hi : i < N) {fs : List Value} (he : g i = .inr (ci, fs)) (hc : vwCl[ci]? = some (C, T, N')) (f : Nat) (hf : f < N') (hlink : (Cond.fieldLink own index (T f).1 (T f).2.1 (T f).2.2.1).before args s = true) (hfin : (T f).2.2.2 = false) {ty : FieldType} {v : Value} (hd : parseFieldDescriptor (T f).2.2.1 = some ty) (hn : narrow ty v = v) (hfit : fits ty v = true) (hl : f < fs.length)
    (hdg : decode cc pc = .ok (.putfield index, 3)) (kk : ∀ (H : Heap) (locs : List Loc), mI k ad N (va_up g i (.inr (ci, fs.set f v))) A s H locs → W p l e R s m args below meth c H locs cells slots Q (F0 m (pc + 3) ls rest)) : W p l e R s m args below meth c H locs cells slots Q (F0 m pc ls (v :: .ref (ad i) :: rest)) :=
  va_put (D := k.1) (cl := vwCl) (ref := (T f).1) hx hb hts hin ty0 hty hnm hown hE.1.1 hI.1 (mw_D hE.2.1 hE.2.2.1) hI.2 i (mw_at' hi he) hc f hf hlink (fun _ h => h) hfin hd hn hfit hl hdg (fun H1 locs1 hP _ hS => kk H1 locs1 ⟨by rw [mw_set hi] at hP; exact hP, hS⟩)
theorem m_putF (hx : p.tables.exec = Jvm.exec) (hb : c.code = cc) {own C : String} {T : u_T} {N' ci index : Nat} {Ts : List Cond} (hts : ∀ w ∈ Ts, w.before args s = true) (hin : ∀ w ∈ u_ws C T N', w ∈ Ts) (ty0 : Nat → FieldType) (hty : ∀ k, k < N' → parseFieldDescriptor (T k).2.2.1 = some (ty0 k)) (hnm : ∀ a, a < N' → ∀ b, b < N' → a ≠ b → (T a).2.1 ≠ (T b).2.1) (hown : s.vm.findClass own = some m.cls)
    (hE : mE k ad N A s) (hI : mI k ad N g A s H locs) (i : Nat) (hi : i < N) {fs : List Value} (he : g i = .inr (ci, fs)) (hc : vwCl[ci]? = some (C, T, N')) (f : Nat) (hf : f < N') (hlink : (Cond.fieldLink own index (T f).1 (T f).2.1 (T f).2.2.1).before args s = true) (hfin : (T f).2.2.2 = true) (hin2 : meth.name = "<init>") (hdecl : (T f).1 = own) {ty : FieldType} {v : Value} (hd : parseFieldDescriptor (T f).2.2.1 = some ty) (hn : narrow ty v = v) (hfit : fits ty v = true) (hl : f < fs.length)
    (hdg : decode cc pc = .ok (.putfield index, 3)) (kk : ∀ (H : Heap) (locs : List Loc), mI k ad N (va_up g i (.inr (ci, fs.set f v))) A s H locs → W p l e R s m args below meth c H locs cells slots Q (F0 m (pc + 3) ls rest)) : W p l e R s m args below meth c H locs cells slots Q (F0 m pc ls (v :: .ref (ad i) :: rest)) :=
  va_putF (D := k.1) (cl := vwCl) (ref := (T f).1) hx hb hts hin ty0 hty hnm hown hE.1.1 hI.1 (mw_D hE.2.1 hE.2.2.1) hI.2 i (mw_at' hi he) hc f hf hlink (fun _ h => h) hfin hin2 hdecl hd hn hfit hl hdg (fun H1 locs1 hP _ hS => kk H1 locs1 ⟨by rw [mw_set hi] at hP; exact hP, hS⟩)
theorem m_iald (hx : p.tables.exec = Jvm.exec) (hb : c.code = cc) (hE : mE k ad N A s) (hI : mI k ad N g A s H locs) (i : Nat) (hi : i < N) {n : Nat} {f : Nat → Int32} (he : g i = .inl (k.2.1.1, n, .inl f)) {j : Nat} (hj : j < n) (hn : n < 2147483648) (hdg : decode cc pc = .ok (.iaload, 1))
    (kk : W p l e R s m args below meth c H locs cells slots Q (F0 m (pc + 1) ls (.int (f j) :: rest))) : W p l e R s m args below meth c H locs cells slots Q (F0 m pc ls (.int (nI j) :: .ref (ad i) :: rest)) :=
  va_iald (D := k.1) (cl := vwCl) hx hb hE.1.1 hI.1 i 0 (mw_at' hi he) rfl (vp_in_nI hj hn) hdg (by rw [nI_clamp (by omega)]; exact kk)
theorem m_aldq (hx : p.tables.exec = Jvm.exec) (hb : c.code = cc) (hE : mE k ad N A s) (hI : mI k ad N g A s H locs) (i : Nat) (hi : i < N) {n : Nat} {f : Nat → Option Nat} (he : g i = .inl (k.2.1.2.1, n, .inr (.inr (.inr (.inr f))))) {j : Nat} (hj : j < n) (hn : n < 2147483648) (hdg : decode cc pc = .ok (.aaload, 1))
    (kk : W p l e R s m args below meth c H locs cells slots Q (F0 m (pc + 1) ls (va_rf (f j) :: rest))) : W p l e R s m args below meth c H locs cells slots Q (F0 m pc ls (.int (nI j) :: .ref (ad i) :: rest)) :=
  va_aldq (D := k.1) (cl := vwCl) (C := "TapePrinter$Row") hx hb hE.1.1 hI.1 i 1 (mw_at' hi he) rfl (vp_in_nI hj hn) hdg (by rw [nI_clamp (by omega)]; exact kk)
theorem m_iast (hx : p.tables.exec = Jvm.exec) (hb : c.code = cc) (hE : mE k ad N A s) (hI : mI k ad N g A s H locs) (i : Nat) (hi : i < N) {n : Nat} {f : Nat → Int32} (he : g i = .inl (k.2.1.1, n, .inl f)) {j : Nat} {x : Int32} (hj : j < n) (hn : n < 2147483648) (hdg : decode cc pc = .ok (.iastore, 1))
    (kk : ∀ (H : Heap) (locs : List Loc), mI k ad N (va_up g i (.inl (k.2.1.1, n, .inl (upd f j x)))) A s H locs → W p l e R s m args below meth c H locs cells slots Q (F0 m (pc + 1) ls rest)) : W p l e R s m args below meth c H locs cells slots Q (F0 m pc ls (.int x :: .int (nI j) :: .ref (ad i) :: rest)) :=
  va_iast (D := k.1) (cl := vwCl) hx hb hE.1.1 hI.1 (mw_D hE.2.1 hE.2.2.1) hI.2 i 0 (mw_at' hi he) rfl (vp_in_nI hj hn) hdg (fun H1 locs1 hP _ hS => kk H1 locs1 ⟨by rw [mw_set hi, nI_clamp (by omega)] at hP; exact hP, hS⟩)
theorem m_aleni (hx : p.tables.exec = Jvm.exec) (hb : c.code = cc) (hE : mE k ad N A s) (hI : mI k ad N g A s H locs) (i : Nat) (hi : i < N) {n : Nat} {f : Nat → Int32} (he : g i = .inl (k.2.1.1, n, .inl f)) (hdg : decode cc pc = .ok (.arraylength, 1))
    (kk : W p l e R s m args below meth c H locs cells slots Q (F0 m (pc + 1) ls (.int (nI n) :: rest))) : W p l e R s m args below meth c H locs cells slots Q (F0 m pc ls (.ref (ad i) :: rest)) :=
  va_alen (D := k.1) (cl := vwCl) hx hb hE.1.1 hI.1 i 0 (mw_at' hi he) rfl rfl hdg kk
theorem m_alenq (hx : p.tables.exec = Jvm.exec) (hb : c.code = cc) (hE : mE k ad N A s) (hI : mI k ad N g A s H locs) (i : Nat) (hi : i < N) {n : Nat} {f : Nat → Option Nat} (he : g i = .inl (k.2.1.2.1, n, .inr (.inr (.inr (.inr f))))) (hdg : decode cc pc = .ok (.arraylength, 1))
    (kk : W p l e R s m args below meth c H locs cells slots Q (F0 m (pc + 1) ls (.int (nI n) :: rest))) : W p l e R s m args below meth c H locs cells slots Q (F0 m pc ls (.ref (ad i) :: rest)) :=
  va_alen (D := k.1) (cl := vwCl) hx hb hE.1.1 hI.1 i 1 (mw_at' hi he) rfl rfl hdg kk
-- ends
theorem m_iret (hx : p.tables.exec = Jvm.exec) (hb : c.code = cc) (hr : meth.sig.returnType = some .int) (hlocks : meth.locks = false) (hI : mI k ad N g A s H locs) {post : Int32 → (Nat → va_E) → Prop} {v : Int32} (hp : post v g) (hdg : decode cc pc = .ok (.ireturn, 1)) :
    W p l e R s m args below meth c H locs cells slots (MQ below (va_Qi post (mB k ad N) A) args s cells slots A) (F0 m pc ls [.int v]) :=
  W.iret (v := v) hx hb hr (fun t ht hW => ⟨⟨v, g, rfl, hp, by unfold mB; rw [ht]; exact hI.1⟩, hI.2.F ht⟩) hI.2.2.2 hdg hlocks
theorem m_zret (hx : p.tables.exec = Jvm.exec) (hb : c.code = cc) (hr : meth.sig.returnType = some .boolean) (hlocks : meth.locks = false) (hI : mI k ad N g A s H locs) {post : Int32 → (Nat → va_E) → Prop} {v : Bool} (hp : post (bI v) g) (hdg : decode cc pc = .ok (.ireturn, 1)) :
    W p l e R s m args below meth c H locs cells slots (MQ below (va_Qi post (mB k ad N) A) args s cells slots A) (F0 m pc ls [.int (bI v)]) :=
  W.zret (v := bI v) hx hb hr (bI_nar v) (fun t ht hW => ⟨⟨bI v, g, rfl, hp, by unfold mB; rw [ht]; exact hI.1⟩, hI.2.F ht⟩) hI.2.2.2 hdg hlocks
theorem m_vret (hx : p.tables.exec = Jvm.exec) (hb : c.code = cc) (hr : meth.sig.returnType = none) (hlocks : meth.locks = false) (hI : mI k ad N g A s H locs) {post : (Nat → va_E) → Prop} (hp : post g) (hdg : decode cc pc = .ok (.return_, 1)) :
    W p l e R s m args below meth c H locs cells slots (MQ below (va_Qv post (mB k ad N) A) args s cells slots A) (F0 m pc ls []) :=
  W.vret hx hb hr (fun t ht hW => ⟨⟨g, rfl, hp, by unfold mB; rw [ht]; exact hI.1⟩, hI.2.F ht⟩) hI.2.2.2 hdg hlocks
theorem m_lret (hx : p.tables.exec = Jvm.exec) (hb : c.code = cc) (hr : meth.sig.returnType = some .long) (hlocks : meth.locks = false) (hI : mI k ad N g A s H locs) {post : Int64 → (Nat → va_E) → Prop} {v : Int64} (hp : post v g) (hdg : decode cc pc = .ok (.lreturn, 1)) :
    W p l e R s m args below meth c H locs cells slots (MQ below (va_Ql post (mB k ad N) A) args s cells slots A) (F0 m pc ls [.long v]) :=
  W.lret (v := v) hx hb hr (fun t ht hW => ⟨⟨v, g, rfl, hp, by unfold mB; rw [ht]; exact hI.1⟩, hI.2.F ht⟩) hI.2.2.2 hdg hlocks
theorem m_aret (hx : p.tables.exec = Jvm.exec) (hb : c.code = cc) {T : String} (hr : meth.sig.returnType = some (.object T)) (hlocks : meth.locks = false) (hI : mI k ad N g A s H locs) {post : Option Nat → (Nat → va_E) → Prop} {v : Option Nat} (hp : post v g) (hdg : decode cc pc = .ok (.areturn, 1)) :
    W p l e R s m args below meth c H locs cells slots (MQ below (va_Qq post (mB k ad N) A) args s cells slots A) (F0 m pc ls [va_rf v]) :=
  W.aret (v := va_rf v) hx hb hr (Or.inl ⟨_, rfl⟩) (by cases v with
    | none => exact Or.inl rfl
    | some a => exact Or.inr ⟨a, rfl⟩) (fun t ht hW => ⟨⟨v, g, rfl, hp, by unfold mB; rw [ht]; exact hI.1⟩, hI.2.F ht⟩) hI.2.2.2 hdg hlocks
-- calls
variable {y : MethodName} {bytes : ByteArray} {maxL nL n index : Nat} {ret : Option FieldType} {ws : List Cond} {rm : Room} {Ts : List Cond} {own C : String} {As : List Value} {st0 : List Value}
theorem m_preV (hE : mE k ad N A s) (hI : mI k ad N g A s H locs) {ci i : Nat} {fs : List Value} {T : u_T} {N' : Nat} (hi : i < N) (he : g i = .inr (ci, fs)) (hc : vwCl[ci]? = some (C, T, N')) : PreV s H C (ad i) (mPc k ad N g H.size (.ref (ad i) :: As)) As :=
  ⟨mPc.blind, va_recv hE.1.1 hI.1 hc (mw_at' hi he), fun U hU hW => ⟨rfl, by rw [hU], mK.call hE.1 hI.2 (mA_sub hE hI) hU hW, by rw [hU]; exact hI.1, hE.2.1⟩⟩
theorem m_preS (hE : mE k ad N A s) (hI : mI k ad N g A s H locs) : PreS s H (mPc k ad N g H.size As) As :=
  ⟨mPc.blind, fun U hU hW => ⟨rfl, by rw [hU], mK.call hE.1 hI.2 (mA_sub hE hI) hU hW, by rw [hU]; exact hI.1, hE.2.1⟩⟩
theorem m_callVi (hfix : CallFix p m c cc nL s args Ts own) (hE : mE k ad N A s) (hI : mI k ad N g A s H locs) {post : Int32 → (Nat → va_E) → Prop} {i : Nat} (hM : mCi k l y ws rm ad N g H.size (.ref (ad i) :: As) post) (cw : CallW R s args own C index y bytes maxL ret ws rm 0 0 n) {ci : Nat} {fs : List Value} {T : u_T} {N' : Nat} (hi : i < N) (he : g i = .inr (ci, fs)) (hc : vwCl[ci]? = some (C, T, N'))
    (hn : As.length = n) (hsize : ls.size = nL) (hst : st0 = As.reverse ++ .ref (ad i) :: rest) (hW : (rest.map fun v => v.category).sum ≤ 8) (hdg : decode cc pc = .ok (.invokevirtual index, 3)) (hf : cells ≤ R.cells ∧ slots ≤ R.slots)
    (kk : ∀ (r : Int32) (g : Nat → va_E) (H : Heap) (locs : List Loc), post r g → mI k ad N g A s H locs → W p l e R s m args below meth c H locs cells slots Q (F0 m (pc + 3) ls (.int r :: rest))) : W p l e R s m args below meth c H locs cells slots Q (F0 m pc ls st0) :=
  va_calli (va_runV (As := As) (rest := rest) hfix hM cw (m_preV hE hI hi he hc) rfl hn hsize hst (lv_room hW) hdg hf) hI.2 (fun q _ h => mA_sub hE hI q h) (mA_sub hE hI) (fun r g' t H1 locs1 ht hvm hp hB hz hk hS => kk r g' H1 locs1 hp ⟨by rw [← ht]; exact hB, hS⟩)
theorem m_callVl (hfix : CallFix p m c cc nL s args Ts own) (hE : mE k ad N A s) (hI : mI k ad N g A s H locs) {post : Int64 → (Nat → va_E) → Prop} {i : Nat} (hM : mCl k l y ws rm ad N g H.size (.ref (ad i) :: As) post) (cw : CallW R s args own C index y bytes maxL ret ws rm 0 0 n) {ci : Nat} {fs : List Value} {T : u_T} {N' : Nat} (hi : i < N) (he : g i = .inr (ci, fs)) (hc : vwCl[ci]? = some (C, T, N'))
    (hn : As.length = n) (hsize : ls.size = nL) (hst : st0 = As.reverse ++ .ref (ad i) :: rest) (hW : (rest.map fun v => v.category).sum ≤ 8) (hdg : decode cc pc = .ok (.invokevirtual index, 3)) (hf : cells ≤ R.cells ∧ slots ≤ R.slots)
    (kk : ∀ (r : Int64) (g : Nat → va_E) (H : Heap) (locs : List Loc), post r g → mI k ad N g A s H locs → W p l e R s m args below meth c H locs cells slots Q (F0 m (pc + 3) ls (.long r :: rest))) : W p l e R s m args below meth c H locs cells slots Q (F0 m pc ls st0) :=
  va_calll (va_runV (As := As) (rest := rest) hfix hM cw (m_preV hE hI hi he hc) rfl hn hsize hst (lv_room hW) hdg hf) hI.2 (fun q _ h => mA_sub hE hI q h) (mA_sub hE hI) (fun r g' t H1 locs1 ht hvm hp hB hz hk hS => kk r g' H1 locs1 hp ⟨by rw [← ht]; exact hB, hS⟩)
theorem m_callVv (hfix : CallFix p m c cc nL s args Ts own) (hE : mE k ad N A s) (hI : mI k ad N g A s H locs) {post : (Nat → va_E) → Prop} {i : Nat} (hM : mCv k l y ws rm ad N g H.size (.ref (ad i) :: As) post) (cw : CallW R s args own C index y bytes maxL ret ws rm 0 0 n) {ci : Nat} {fs : List Value} {T : u_T} {N' : Nat} (hi : i < N) (he : g i = .inr (ci, fs)) (hc : vwCl[ci]? = some (C, T, N'))
    (hn : As.length = n) (hsize : ls.size = nL) (hst : st0 = As.reverse ++ .ref (ad i) :: rest) (hW : (rest.map fun v => v.category).sum ≤ 8) (hdg : decode cc pc = .ok (.invokevirtual index, 3)) (hf : cells ≤ R.cells ∧ slots ≤ R.slots)
    (kk : ∀ (g : Nat → va_E) (H : Heap) (locs : List Loc), post g → mI k ad N g A s H locs → W p l e R s m args below meth c H locs cells slots Q (F0 m (pc + 3) ls rest)) : W p l e R s m args below meth c H locs cells slots Q (F0 m pc ls st0) :=
  va_callv (va_runV (As := As) (rest := rest) hfix hM cw (m_preV hE hI hi he hc) rfl hn hsize hst (lv_room hW) hdg hf) hI.2 (fun q _ h => mA_sub hE hI q h) (mA_sub hE hI) (fun g' t H1 locs1 ht hvm hp hB hz hk hS => kk g' H1 locs1 hp ⟨by rw [← ht]; exact hB, hS⟩)
theorem m_callVq (hfix : CallFix p m c cc nL s args Ts own) (hE : mE k ad N A s) (hI : mI k ad N g A s H locs) {post : Option Nat → (Nat → va_E) → Prop} {i : Nat} (hM : mCq k l y ws rm ad N g H.size (.ref (ad i) :: As) post) (cw : CallW R s args own C index y bytes maxL ret ws rm 0 0 n) {ci : Nat} {fs : List Value} {T : u_T} {N' : Nat} (hi : i < N) (he : g i = .inr (ci, fs)) (hc : vwCl[ci]? = some (C, T, N'))
    (hn : As.length = n) (hsize : ls.size = nL) (hst : st0 = As.reverse ++ .ref (ad i) :: rest) (hW : (rest.map fun v => v.category).sum ≤ 8) (hdg : decode cc pc = .ok (.invokevirtual index, 3)) (hf : cells ≤ R.cells ∧ slots ≤ R.slots)
    (kk : ∀ (r : Option Nat) (g : Nat → va_E) (H : Heap) (locs : List Loc), post r g → mI k ad N g A s H locs → W p l e R s m args below meth c H locs cells slots Q (F0 m (pc + 3) ls (va_rf r :: rest))) : W p l e R s m args below meth c H locs cells slots Q (F0 m pc ls st0) :=
  va_callq (va_runV (As := As) (rest := rest) hfix hM cw (m_preV hE hI hi he hc) rfl hn hsize hst (lv_room hW) hdg hf) hI.2 (fun q _ h => mA_sub hE hI q h) (mA_sub hE hI) (fun r g' t H1 locs1 ht hvm hp hB hz hk hS => kk r g' H1 locs1 hp ⟨by rw [← ht]; exact hB, hS⟩)
theorem m_callSi (hfix : CallFix p m c cc nL s args Ts own) (hE : mE k ad N A s) (hI : mI k ad N g A s H locs) {post : Int32 → (Nat → va_E) → Prop} (hM : mCi k l y ws rm ad N g H.size As post) (cw : CallB R s args own index y bytes maxL ret ws rm 0 0 n ∧ (Cond.static y).before args s = true)
    (hn : As.length = n) (hsize : ls.size = nL) (hst : st0 = As.reverse ++ rest) (hW : (rest.map fun v => v.category).sum ≤ 8) (hdg : decode cc pc = .ok (.invokestatic index, 3)) (hf : cells ≤ R.cells ∧ slots ≤ R.slots)
    (kk : ∀ (r : Int32) (g : Nat → va_E) (H : Heap) (locs : List Loc), post r g → mI k ad N g A s H locs → W p l e R s m args below meth c H locs cells slots Q (F0 m (pc + 3) ls (.int r :: rest))) : W p l e R s m args below meth c H locs cells slots Q (F0 m pc ls st0) :=
  va_calli (va_runS (As := As) (rest := rest) hfix hM cw (m_preS hE hI) rfl hn hsize hst (lv_room hW) hdg hf) hI.2 (fun q _ h => mA_sub hE hI q h) (mA_sub hE hI) (fun r g' t H1 locs1 ht hvm hp hB hz hk hS => kk r g' H1 locs1 hp ⟨by rw [← ht]; exact hB, hS⟩)
theorem m_callSl (hfix : CallFix p m c cc nL s args Ts own) (hE : mE k ad N A s) (hI : mI k ad N g A s H locs) {post : Int64 → (Nat → va_E) → Prop} (hM : mCl k l y ws rm ad N g H.size As post) (cw : CallB R s args own index y bytes maxL ret ws rm 0 0 n ∧ (Cond.static y).before args s = true)
    (hn : As.length = n) (hsize : ls.size = nL) (hst : st0 = As.reverse ++ rest) (hW : (rest.map fun v => v.category).sum ≤ 8) (hdg : decode cc pc = .ok (.invokestatic index, 3)) (hf : cells ≤ R.cells ∧ slots ≤ R.slots)
    (kk : ∀ (r : Int64) (g : Nat → va_E) (H : Heap) (locs : List Loc), post r g → mI k ad N g A s H locs → W p l e R s m args below meth c H locs cells slots Q (F0 m (pc + 3) ls (.long r :: rest))) : W p l e R s m args below meth c H locs cells slots Q (F0 m pc ls st0) :=
  va_calll (va_runS (As := As) (rest := rest) hfix hM cw (m_preS hE hI) rfl hn hsize hst (lv_room hW) hdg hf) hI.2 (fun q _ h => mA_sub hE hI q h) (mA_sub hE hI) (fun r g' t H1 locs1 ht hvm hp hB hz hk hS => kk r g' H1 locs1 hp ⟨by rw [← ht]; exact hB, hS⟩)

-- an answer and a memory that are known
theorem m_deti {v : Int32} {g1 : Nat → va_E} (kk : ∀ (H : Heap) (locs : List Loc), mI k ad N g1 A s H locs → W p l e R s m args below meth c H locs cells slots Q (F0 m pc ls (.int v :: rest))) : ∀ (r : Int32) (g : Nat → va_E) (H : Heap) (locs : List Loc), (r = v ∧ g = g1) → mI k ad N g A s H locs → W p l e R s m args below meth c H locs cells slots Q (F0 m pc ls (.int r :: rest)) := by
  rintro r g H locs ⟨rfl, rfl⟩ hI
  exact kk H locs hI
theorem m_detl {v : Int64} {g1 : Nat → va_E} (kk : ∀ (H : Heap) (locs : List Loc), mI k ad N g1 A s H locs → W p l e R s m args below meth c H locs cells slots Q (F0 m pc ls (.long v :: rest))) : ∀ (r : Int64) (g : Nat → va_E) (H : Heap) (locs : List Loc), (r = v ∧ g = g1) → mI k ad N g A s H locs → W p l e R s m args below meth c H locs cells slots Q (F0 m pc ls (.long r :: rest)) := by
  rintro r g H locs ⟨rfl, rfl⟩ hI
  exact kk H locs hI
theorem m_detq {v : Option Nat} {g1 : Nat → va_E} (kk : ∀ (H : Heap) (locs : List Loc), mI k ad N g1 A s H locs → W p l e R s m args below meth c H locs cells slots Q (F0 m pc ls (va_rf v :: rest))) : ∀ (r : Option Nat) (g : Nat → va_E) (H : Heap) (locs : List Loc), (r = v ∧ g = g1) → mI k ad N g A s H locs → W p l e R s m args below meth c H locs cells slots Q (F0 m pc ls (va_rf r :: rest)) := by
  rintro r g H locs ⟨rfl, rfl⟩ hI
  exact kk H locs hI
theorem m_detv {g1 : Nat → va_E} {st : List Value} (kk : ∀ (H : Heap) (locs : List Loc), mI k ad N g1 A s H locs → W p l e R s m args below meth c H locs cells slots Q (F0 m pc ls st)) : ∀ (g : Nat → va_E) (H : Heap) (locs : List Loc), g = g1 → mI k ad N g A s H locs → W p l e R s m args below meth c H locs cells slots Q (F0 m pc ls st) := by
  rintro g H locs rfl hI
  exact kk H locs hI

theorem m_rf {o : Option Nat} {a : Nat} (h : o = some a) (kk : W p l e R s m args below meth c H locs cells slots Q (F0 m pc ls (.ref a :: rest))) : W p l e R s m args below meth c H locs cells slots Q (F0 m pc ls (va_rf o :: rest)) := by
  subst h
  exact kk
theorem m_rfN {o : Option Nat} (h : o = none) (kk : W p l e R s m args below meth c H locs cells slots Q (F0 m pc ls (.null :: rest))) : W p l e R s m args below meth c H locs cells slots Q (F0 m pc ls (va_rf o :: rest)) := by
  subst h
  exact kk
/-- a loop: its invariant, a measure, the memory and the locals at its head -/
theorem m_loop {σ : Type} (Inv : σ → Prop) (μ : σ → Nat) (gf : σ → Nat → va_E) (lf : σ → List (Nat × Value)) {nL : Nat} (x0 : σ) (h0 : Inv x0) (hI0 : mI k ad N (gf x0) A s H locs) (hl0 : lv_has ls nL (lf x0))
    (step : ∀ x : σ, Inv x → (∀ y : σ, Inv y → μ y < μ x → ∀ (H : Heap) (locs : List Loc) (ls : Array Slot), mI k ad N (gf y) A s H locs → lv_has ls nL (lf y) → W p l e R s m args below meth c H locs cells slots Q (F0 m pc ls [])) →
      ∀ (H : Heap) (locs : List Loc) (ls : Array Slot), mI k ad N (gf x) A s H locs → lv_has ls nL (lf x) → W p l e R s m args below meth c H locs cells slots Q (F0 m pc ls [])) :
    W p l e R s m args below meth c H locs cells slots Q (F0 m pc ls []) := by
  have key : ∀ (n : Nat) (x : σ), μ x < n → Inv x → ∀ (H : Heap) (locs : List Loc) (ls : Array Slot), mI k ad N (gf x) A s H locs → lv_has ls nL (lf x) → W p l e R s m args below meth c H locs cells slots Q (F0 m pc ls []) := by
    intro n
    induction n with
    | zero => intro x hx; exact absurd hx (Nat.not_lt_zero _)
    | succ n ih => intro x hx hi; exact step x hi (fun y hy hlt => ih y (by omega) hy)
  exact key (μ x0 + 1) x0 (Nat.lt_succ_self _) h0 H locs ls hI0 hl0
-- small naturals on the stack
theorem m_iaddN (hx : p.tables.exec = Jvm.exec) (hb : c.code = cc) {a b : Nat} (hdg : decode cc pc = .ok (.iadd, 1)) (kk : W p l e R s m args below meth c H locs cells slots Q (F0 m (pc + 1) ls (.int (nI (a + b)) :: rest))) : W p l e R s m args below meth c H locs cells slots Q (F0 m pc ls (.int (nI b) :: .int (nI a) :: rest)) := lv_iadd hx hb hdg (by rw [nI_add]; exact kk)
theorem m_imulN (hx : p.tables.exec = Jvm.exec) (hb : c.code = cc) {a b : Nat} (hdg : decode cc pc = .ok (.imul, 1)) (kk : W p l e R s m args below meth c H locs cells slots Q (F0 m (pc + 1) ls (.int (nI (a * b)) :: rest))) : W p l e R s m args below meth c H locs cells slots Q (F0 m pc ls (.int (nI b) :: .int (nI a) :: rest)) := lv_imul hx hb hdg (by rw [pk_mul]; exact kk)
theorem m_isubN (hx : p.tables.exec = Jvm.exec) (hb : c.code = cc) {a b : Nat} (h : b ≤ a) (hdg : decode cc pc = .ok (.isub, 1)) (kk : W p l e R s m args below meth c H locs cells slots Q (F0 m (pc + 1) ls (.int (nI (a - b)) :: rest))) : W p l e R s m args below meth c H locs cells slots Q (F0 m pc ls (.int (nI b) :: .int (nI a) :: rest)) := lv_isub hx hb hdg (by rw [pk_sub h]; exact kk)
theorem m_iremN (hx : p.tables.exec = Jvm.exec) (hb : c.code = cc) {a b : Nat} (ha : a < 2147483648) (h0 : 0 < b) (hbb : b < 2147483648) (hdg : decode cc pc = .ok (.irem, 1)) (kk : W p l e R s m args below meth c H locs cells slots Q (F0 m (pc + 1) ls (.int (nI (a % b)) :: rest))) : W p l e R s m args below meth c H locs cells slots Q (F0 m pc ls (.int (nI b) :: .int (nI a) :: rest)) := lv_irem hx hb hdg (nI_ne0 h0 hbb) (by rw [pk_rem ha h0 hbb]; exact kk)
theorem m_leN {p q : Nat} (hp : p < 2147483648) (hq : q < 2147483648) : nI p ≤ nI q ↔ p ≤ q := nI_leI hp hq
theorem m_ltN {p q : Nat} (hp : p < 2147483648) (hq : q < 2147483648) : nI p < nI q ↔ p < q := nI_ltI hp hq
theorem m_eqN {p q : Nat} (hp : p < 2147483648) (hq : q < 2147483648) : nI p = nI q ↔ p = q := nI_eq hp hq
theorem m_cgeN (hx : p.tables.exec = Jvm.exec) (hb : c.code = cc) {a b : Nat} (ha : a < 2147483648) (hbb : b < 2147483648) {off : Int} {tgt : Nat} (hdg : decode cc pc = .ok (.if_icmp .ge off, 3)) (ht : (pc : Int) + off = (tgt : Int)) (kt : b ≤ a → W p l e R s m args below meth c H locs cells slots Q (F0 m tgt ls rest)) (kf : a < b → W p l e R s m args below meth c H locs cells slots Q (F0 m (pc + 3) ls rest)) : W p l e R s m args below meth c H locs cells slots Q (F0 m pc ls (.int (nI b) :: .int (nI a) :: rest)) := lv_icmp_ge hx hb hdg ht (fun h => kt ((m_leN hbb ha).mp h)) (fun h => kf (Nat.lt_of_not_le (fun z => h ((m_leN hbb ha).mpr z))))
theorem m_cgtN (hx : p.tables.exec = Jvm.exec) (hb : c.code = cc) {a b : Nat} (ha : a < 2147483648) (hbb : b < 2147483648) {off : Int} {tgt : Nat} (hdg : decode cc pc = .ok (.if_icmp .gt off, 3)) (ht : (pc : Int) + off = (tgt : Int)) (kt : b < a → W p l e R s m args below meth c H locs cells slots Q (F0 m tgt ls rest)) (kf : a ≤ b → W p l e R s m args below meth c H locs cells slots Q (F0 m (pc + 3) ls rest)) : W p l e R s m args below meth c H locs cells slots Q (F0 m pc ls (.int (nI b) :: .int (nI a) :: rest)) := lv_icmp_gt hx hb hdg ht (fun h => kt ((m_ltN hbb ha).mp h)) (fun h => kf (Nat.le_of_not_lt (fun z => h ((m_ltN hbb ha).mpr z))))
theorem m_cltN (hx : p.tables.exec = Jvm.exec) (hb : c.code = cc) {a b : Nat} (ha : a < 2147483648) (hbb : b < 2147483648) {off : Int} {tgt : Nat} (hdg : decode cc pc = .ok (.if_icmp .lt off, 3)) (ht : (pc : Int) + off = (tgt : Int)) (kt : a < b → W p l e R s m args below meth c H locs cells slots Q (F0 m tgt ls rest)) (kf : b ≤ a → W p l e R s m args below meth c H locs cells slots Q (F0 m (pc + 3) ls rest)) : W p l e R s m args below meth c H locs cells slots Q (F0 m pc ls (.int (nI b) :: .int (nI a) :: rest)) := lv_icmp_lt hx hb hdg ht (fun h => kt ((m_ltN ha hbb).mp h)) (fun h => kf (Nat.le_of_not_lt (fun z => h ((m_ltN ha hbb).mpr z))))
theorem m_cleN (hx : p.tables.exec = Jvm.exec) (hb : c.code = cc) {a b : Nat} (ha : a < 2147483648) (hbb : b < 2147483648) {off : Int} {tgt : Nat} (hdg : decode cc pc = .ok (.if_icmp .le off, 3)) (ht : (pc : Int) + off = (tgt : Int)) (kt : a ≤ b → W p l e R s m args below meth c H locs cells slots Q (F0 m tgt ls rest)) (kf : b < a → W p l e R s m args below meth c H locs cells slots Q (F0 m (pc + 3) ls rest)) : W p l e R s m args below meth c H locs cells slots Q (F0 m pc ls (.int (nI b) :: .int (nI a) :: rest)) := lv_icmp_le hx hb hdg ht (fun h => kt ((m_leN ha hbb).mp h)) (fun h => kf (Nat.lt_of_not_le (fun z => h ((m_leN ha hbb).mpr z))))
theorem m_ceqN (hx : p.tables.exec = Jvm.exec) (hb : c.code = cc) {a b : Nat} (ha : a < 2147483648) (hbb : b < 2147483648) {off : Int} {tgt : Nat} (hdg : decode cc pc = .ok (.if_icmp .eq off, 3)) (ht : (pc : Int) + off = (tgt : Int)) (kt : a = b → W p l e R s m args below meth c H locs cells slots Q (F0 m tgt ls rest)) (kf : a ≠ b → W p l e R s m args below meth c H locs cells slots Q (F0 m (pc + 3) ls rest)) : W p l e R s m args below meth c H locs cells slots Q (F0 m pc ls (.int (nI b) :: .int (nI a) :: rest)) := lv_icmp_eq hx hb hdg ht (fun h => kt ((m_eqN ha hbb).mp h)) (fun h => kf (fun z => h ((m_eqN ha hbb).mpr z)))
theorem m_cneN (hx : p.tables.exec = Jvm.exec) (hb : c.code = cc) {a b : Nat} (ha : a < 2147483648) (hbb : b < 2147483648) {off : Int} {tgt : Nat} (hdg : decode cc pc = .ok (.if_icmp .ne off, 3)) (ht : (pc : Int) + off = (tgt : Int)) (kt : a ≠ b → W p l e R s m args below meth c H locs cells slots Q (F0 m tgt ls rest)) (kf : a = b → W p l e R s m args below meth c H locs cells slots Q (F0 m (pc + 3) ls rest)) : W p l e R s m args below meth c H locs cells slots Q (F0 m pc ls (.int (nI b) :: .int (nI a) :: rest)) := lv_icmp_ne hx hb hdg ht (fun h => kt (fun z => h ((m_eqN ha hbb).mpr z))) (fun h => kf ((m_eqN ha hbb).mp h))
theorem m_zltN (hx : p.tables.exec = Jvm.exec) (hb : c.code = cc) {a : Nat} (ha : a < 2147483648) {off : Int} {tgt : Nat} (hdg : decode cc pc = .ok (.ifCond .lt off, 3)) (ht : (pc : Int) + off = (tgt : Int)) (kf : W p l e R s m args below meth c H locs cells slots Q (F0 m (pc + 3) ls rest)) : W p l e R s m args below meth c H locs cells slots Q (F0 m pc ls (.int (nI a) :: rest)) := lv_if_lt hx hb hdg ht (fun h => absurd h (nI_pos ha)) (fun _ => kf)
theorem m_zgeN (hx : p.tables.exec = Jvm.exec) (hb : c.code = cc) {a : Nat} (ha : a < 2147483648) {off : Int} {tgt : Nat} (hdg : decode cc pc = .ok (.ifCond .ge off, 3)) (ht : (pc : Int) + off = (tgt : Int)) (kt : W p l e R s m args below meth c H locs cells slots Q (F0 m tgt ls rest)) : W p l e R s m args below meth c H locs cells slots Q (F0 m pc ls (.int (nI a) :: rest)) := lv_if_ge hx hb hdg ht (fun _ => kt) (fun h => absurd (nI_pos' ha) h)
theorem nI_z {a : Nat} (ha : a < 2147483648) : nI a = 0 ↔ a = 0 := by
  rw [← nI_0]; exact nI_eq ha (by omega)
theorem m_zeqN (hx : p.tables.exec = Jvm.exec) (hb : c.code = cc) {a : Nat} (ha : a < 2147483648) {off : Int} {tgt : Nat} (hdg : decode cc pc = .ok (.ifCond .eq off, 3)) (ht : (pc : Int) + off = (tgt : Int)) (kt : a = 0 → W p l e R s m args below meth c H locs cells slots Q (F0 m tgt ls rest)) (kf : a ≠ 0 → W p l e R s m args below meth c H locs cells slots Q (F0 m (pc + 3) ls rest)) : W p l e R s m args below meth c H locs cells slots Q (F0 m pc ls (.int (nI a) :: rest)) := lv_if_eq hx hb hdg ht (fun h => kt ((nI_z ha).mp h)) (fun h => kf (fun z => h ((nI_z ha).mpr z)))
theorem m_zneN (hx : p.tables.exec = Jvm.exec) (hb : c.code = cc) {a : Nat} (ha : a < 2147483648) {off : Int} {tgt : Nat} (hdg : decode cc pc = .ok (.ifCond .ne off, 3)) (ht : (pc : Int) + off = (tgt : Int)) (kt : a ≠ 0 → W p l e R s m args below meth c H locs cells slots Q (F0 m tgt ls rest)) (kf : a = 0 → W p l e R s m args below meth c H locs cells slots Q (F0 m (pc + 3) ls rest)) : W p l e R s m args below meth c H locs cells slots Q (F0 m pc ls (.int (nI a) :: rest)) := lv_if_ne hx hb hdg ht (fun h => kt (fun z => h ((nI_z ha).mpr z))) (fun h => kf ((nI_z ha).mp h))
theorem m_zleN (hx : p.tables.exec = Jvm.exec) (hb : c.code = cc) {a : Nat} (ha : a < 2147483648) {off : Int} {tgt : Nat} (hdg : decode cc pc = .ok (.ifCond .le off, 3)) (ht : (pc : Int) + off = (tgt : Int)) (kt : a = 0 → W p l e R s m args below meth c H locs cells slots Q (F0 m tgt ls rest)) (kf : 0 < a → W p l e R s m args below meth c H locs cells slots Q (F0 m (pc + 3) ls rest)) : W p l e R s m args below meth c H locs cells slots Q (F0 m pc ls (.int (nI a) :: rest)) :=
  lv_if_le hx hb hdg ht (fun h => kt (by rw [← nI_0] at h; have := (m_leN ha (by omega)).mp h; omega)) (fun h => kf (Nat.pos_of_ne_zero (fun z => h (by rw [z, nI_0]; decide))))
theorem m_zeqB (hx : p.tables.exec = Jvm.exec) (hb : c.code = cc) {b : Bool} {off : Int} {tgt : Nat} (hdg : decode cc pc = .ok (.ifCond .eq off, 3)) (ht : (pc : Int) + off = (tgt : Int)) (kt : b = false → W p l e R s m args below meth c H locs cells slots Q (F0 m tgt ls rest)) (kf : b = true → W p l e R s m args below meth c H locs cells slots Q (F0 m (pc + 3) ls rest)) : W p l e R s m args below meth c H locs cells slots Q (F0 m pc ls (.int (bI b) :: rest)) := lv_if_eq hx hb hdg ht (fun h => kt (bI_0 h)) (fun h => kf (bI_1 h))
theorem m_zneB (hx : p.tables.exec = Jvm.exec) (hb : c.code = cc) {b : Bool} {off : Int} {tgt : Nat} (hdg : decode cc pc = .ok (.ifCond .ne off, 3)) (ht : (pc : Int) + off = (tgt : Int)) (kt : b = true → W p l e R s m args below meth c H locs cells slots Q (F0 m tgt ls rest)) (kf : b = false → W p l e R s m args below meth c H locs cells slots Q (F0 m (pc + 3) ls rest)) : W p l e R s m args below meth c H locs cells slots Q (F0 m pc ls (.int (bI b) :: rest)) := lv_if_ne hx hb hdg ht (fun h => kt (bI_1 h)) (fun h => kf (bI_0 h))
theorem m_ceqB (hx : p.tables.exec = Jvm.exec) (hb : c.code = cc) {a b : Bool} {off : Int} {tgt : Nat} (hdg : decode cc pc = .ok (.if_icmp .eq off, 3)) (ht : (pc : Int) + off = (tgt : Int)) (kt : a = b → W p l e R s m args below meth c H locs cells slots Q (F0 m tgt ls rest)) (kf : a ≠ b → W p l e R s m args below meth c H locs cells slots Q (F0 m (pc + 3) ls rest)) : W p l e R s m args below meth c H locs cells slots Q (F0 m pc ls (.int (bI b) :: .int (bI a) :: rest)) := lv_icmp_eq hx hb hdg ht (fun h => kt (bI_inj h)) (fun h => kf (fun z => h (by rw [z])))
theorem m_cneB (hx : p.tables.exec = Jvm.exec) (hb : c.code = cc) {a b : Bool} {off : Int} {tgt : Nat} (hdg : decode cc pc = .ok (.if_icmp .ne off, 3)) (ht : (pc : Int) + off = (tgt : Int)) (kt : a ≠ b → W p l e R s m args below meth c H locs cells slots Q (F0 m tgt ls rest)) (kf : a = b → W p l e R s m args below meth c H locs cells slots Q (F0 m (pc + 3) ls rest)) : W p l e R s m args below meth c H locs cells slots Q (F0 m pc ls (.int (bI b) :: .int (bI a) :: rest)) := lv_icmp_ne hx hb hdg ht (fun h => kt (fun z => h (by rw [z]))) (fun h => kf (bI_inj h))
end MR
end MB
end
section
abbrev CRow (k : mC) (ad : Nat → Nat) (g : Nat → va_E) (i n z : Nat) (f : Nat → Int32) : Prop := g i = .inr (0, [.ref (ad (i + 1)), .int (nI z)]) ∧ g (i + 1) = .inl (k.2.1.1, n, .inl f)
/-- a place: at least 0, below n -/
def inN (x : Int32) (n : Nat) : Bool := decide (0 ≤ x) && decide (x < nI n)
theorem inN_nI {j n : Nat} (h : j < n) (hn : n < 2147483648) : inN (nI j) n = true := by
  simp only [inN, Bool.and_eq_true, decide_eq_true_eq]
  exact ⟨nI_pos' (by omega), nI_lt h hn⟩
theorem inN_ex {x : Int32} {n : Nat} (h : inN x n = true) (hn : n < 2147483648) : ∃ j : Nat, j < n ∧ x = nI j := by
  simp only [inN, Bool.and_eq_true, decide_eq_true_eq] at h
  obtain ⟨j, hj, rfl⟩ := nI_of (x := x) (fun q => by have := h.1; rw [Int32.le_iff_toInt_le] at this; rw [Int32.lt_iff_toInt_lt] at q; omega)
  exact ⟨j, (nI_ltI hj hn).mp h.2, rfl⟩
theorem inN_neg {x : Int32} {n : Nat} (h : x < 0) : inN x n = false := by
  simp only [inN, Bool.and_eq_false_iff, decide_eq_false_iff_not]
  left; intro q; rw [Int32.le_iff_toInt_le] at q; rw [Int32.lt_iff_toInt_lt] at h; omega
theorem inN_big {x : Int32} {n : Nat} (h : nI n ≤ x) : inN x n = false := by
  simp only [inN, Bool.and_eq_false_iff, decide_eq_false_iff_not]
  right; intro q; rw [Int32.le_iff_toInt_le] at h; rw [Int32.lt_iff_toInt_lt] at q; omega
theorem inN_yes {x : Int32} {n : Nat} (h : ¬ x < 0) (h2 : ¬ nI n ≤ x) : inN x n = true := by
  simp only [inN, Bool.and_eq_true, decide_eq_true_eq]
  rw [Int32.lt_iff_toInt_lt] at h; rw [Int32.le_iff_toInt_le] at h2
  rw [Int32.le_iff_toInt_le, Int32.lt_iff_toInt_lt]; constructor <;> omega
set_option maxHeartbeats 4000000 in
set_option maxRecDepth 100000 in
theorem c_X0_size (k : mC) (l : Launch) (ad : Nat → Nat) (N : Nat) (g : Nat → va_E) (sz : Nat) (i n z : Nat) (f : Nat → Int32)  (hi : i + 1 < N) (hn : n < 2147483648) (hz : z ≤ n) (hr0 : CRow k ad g i n z f) : mCi k l yX0_size wsX0_size { frames := 0, cells := 0, slots := 0, locals := 0 } ad N g sz [.ref (ad i)] (fun r g1 => r = nI z ∧ g1 = g) := by
  refine mOf (Qc := fun z9 => va_Qi (fun r g1 => r = nI z ∧ g1 = g) (mB k ad N) (mA ad N z9)) (cc := cX0_size) (maxL := 1) (ret := (some .int)) (by decide) rfl (Nat.le_of_ble_eq_true rfl) ?_
  intro p e s m below meth c hx hb hr hts hown hlocks hml hin hE hI ls hl
  have hl : lv_has ls 1 [(0, .ref (ad i))] := hl
  have h0 := hr0.1
  have h1 := hr0.2
  refine lv_aload_n hx hb dX0_size_0 rfl (lv_at hl 0 rfl) ?_
  refine m_get (ci := 0) (C := RX0) (T := TX0) (N' := 2) hx hb hts (by decide +kernel) hown hE hI i (by omega) h0 rfl 1 (by decide) (hts (.fieldLink RX0 13 "TapePrinter$Row" "size" "I") (by decide +kernel)) rfl dX0_size_1 ?_
  exact m_iret hx hb hr hlocks hI (⟨rfl, rfl⟩) dX0_size_4
set_option maxHeartbeats 4000000 in
set_option maxRecDepth 100000 in
theorem c_X0_room (k : mC) (l : Launch) (ad : Nat → Nat) (N : Nat) (g : Nat → va_E) (sz : Nat) (i n z : Nat) (f : Nat → Int32)  (hi : i + 1 < N) (hn : n < 2147483648) (hz : z ≤ n) (hr0 : CRow k ad g i n z f) : mCi k l yX0_room wsX0_room { frames := 0, cells := 0, slots := 0, locals := 0 } ad N g sz [.ref (ad i)] (fun r g1 => r = nI (n - z) ∧ g1 = g) := by
  refine mOf (Qc := fun z9 => va_Qi (fun r g1 => r = nI (n - z) ∧ g1 = g) (mB k ad N) (mA ad N z9)) (cc := cX0_room) (maxL := 1) (ret := (some .int)) (by decide) rfl (Nat.le_of_ble_eq_true rfl) ?_
  intro p e s m below meth c hx hb hr hts hown hlocks hml hin hE hI ls hl
  have hl : lv_has ls 1 [(0, .ref (ad i))] := hl
  have h0 := hr0.1
  have h1 := hr0.2
  refine lv_aload_n hx hb dX0_room_0 rfl (lv_at hl 0 rfl) ?_
  refine m_get (ci := 0) (C := RX0) (T := TX0) (N' := 2) hx hb hts (by decide +kernel) hown hE hI i (by omega) h0 rfl 0 (by decide) (hts (.fieldLink RX0 7 "TapePrinter$Row" "values" "[I") (by decide +kernel)) rfl dX0_room_1 ?_
  refine m_aleni hx hb hE hI (i + 1) (by omega) h1 dX0_room_4 ?_
  refine lv_aload_n hx hb dX0_room_5 rfl (lv_at hl 0 rfl) ?_
  refine m_get (ci := 0) (C := RX0) (T := TX0) (N' := 2) hx hb hts (by decide +kernel) hown hE hI i (by omega) h0 rfl 1 (by decide) (hts (.fieldLink RX0 13 "TapePrinter$Row" "size" "I") (by decide +kernel)) rfl dX0_room_6 ?_
  refine m_isubN hx hb (by omega) dX0_room_9 ?_
  exact m_iret hx hb hr hlocks hI (⟨rfl, rfl⟩) dX0_room_10
set_option maxHeartbeats 4000000 in
set_option maxRecDepth 100000 in
theorem c_X0_has (k : mC) (l : Launch) (ad : Nat → Nat) (N : Nat) (g : Nat → va_E) (sz : Nat) (i n z : Nat) (f : Nat → Int32) (x : Int32) (hi : i + 1 < N) (hn : n < 2147483648) (hz : z ≤ n) (hr0 : CRow k ad g i n z f) : mCi k l yX0_has wsX0_has { frames := 0, cells := 0, slots := 0, locals := 0 } ad N g sz [.ref (ad i), .int x] (fun r g1 => r = bI (inN x z) ∧ g1 = g) := by
  refine mOf (Qc := fun z9 => va_Qi (fun r g1 => r = bI (inN x z) ∧ g1 = g) (mB k ad N) (mA ad N z9)) (cc := cX0_has) (maxL := 2) (ret := (some .boolean)) (by decide) rfl (Nat.le_of_ble_eq_true rfl) ?_
  intro p e s m below meth c hx hb hr hts hown hlocks hml hin hE hI ls hl
  have hl : lv_has ls 2 [(0, .ref (ad i)), (1, .int x)] := hl
  have h0 := hr0.1
  have h1 := hr0.2
  refine lv_iload_n hx hb dX0_has_0 rfl (lv_at hl 1 rfl) ?_
  refine lv_if_lt (tgt := 25) hx hb dX0_has_1 (by decide) (fun c_1 => ?_) (fun c_1 => ?_)
  · refine lv_iconst (v := nI 0) hx hb dX0_has_25 (by decide) ?_
    refine m_top (y := bI false) (by decide) ?_
    exact m_zret (v := false) hx hb hr hlocks hI (⟨by rw [inN_neg c_1], rfl⟩) dX0_has_26
  · refine lv_iload_n hx hb dX0_has_4 rfl (lv_at hl 1 rfl) ?_
    refine lv_aload_n hx hb dX0_has_5 rfl (lv_at hl 0 rfl) ?_
    refine m_get (ci := 0) (C := RX0) (T := TX0) (N' := 2) hx hb hts (by decide +kernel) hown hE hI i (by omega) h0 rfl 1 (by decide) (hts (.fieldLink RX0 13 "TapePrinter$Row" "size" "I") (by decide +kernel)) rfl dX0_has_6 ?_
    refine lv_icmp_ge (tgt := 25) hx hb dX0_has_9 (by decide) (fun c_9 => ?_) (fun c_9 => ?_)
    · refine lv_iconst (v := nI 0) hx hb dX0_has_25 (by decide) ?_
      refine m_top (y := bI false) (by decide) ?_
      exact m_zret (v := false) hx hb hr hlocks hI (⟨by rw [inN_big c_9], rfl⟩) dX0_has_26
    · refine lv_iload_n hx hb dX0_has_12 rfl (lv_at hl 1 rfl) ?_
      refine lv_aload_n hx hb dX0_has_13 rfl (lv_at hl 0 rfl) ?_
      refine m_get (ci := 0) (C := RX0) (T := TX0) (N' := 2) hx hb hts (by decide +kernel) hown hE hI i (by omega) h0 rfl 0 (by decide) (hts (.fieldLink RX0 7 "TapePrinter$Row" "values" "[I") (by decide +kernel)) rfl dX0_has_14 ?_
      refine m_aleni hx hb hE hI (i + 1) (by omega) h1 dX0_has_17 ?_
      refine lv_icmp_ge (tgt := 25) hx hb dX0_has_18 (by decide) (fun c_18 => ?_) (fun c_18 => ?_)
      · exact absurd (show nI z ≤ x by
            have h7 := c_18; have h8 : nI z ≤ nI n := nI_le hz (by omega)
            rw [Int32.le_iff_toInt_le] at *; omega) c_9
      · refine lv_iconst (v := nI 1) hx hb dX0_has_21 (by decide) ?_
        refine lv_goto (tgt := 26) hx hb dX0_has_22 (by decide) ?_
        refine m_top (y := bI true) (by decide) ?_
        exact m_zret (v := true) hx hb hr hlocks hI (⟨by rw [inN_yes c_1 c_9], rfl⟩) dX0_has_26
set_option maxHeartbeats 4000000 in
set_option maxRecDepth 100000 in
theorem c_X0_at (k : mC) (l : Launch) (ad : Nat → Nat) (N : Nat) (g : Nat → va_E) (sz : Nat) (i n z : Nat) (f : Nat → Int32) (j : Nat) (hi : i + 1 < N) (hn : n < 2147483648) (hz : z ≤ n) (hr0 : CRow k ad g i n z f) (hj : j < z) : mCi k l yX0_at wsX0_at { frames := 1, cells := 0, slots := 0, locals := 21 } ad N g sz [.ref (ad i), .int (nI j)] (fun r g1 => r = f j ∧ g1 = g) := by
  refine mOf (Qc := fun z9 => va_Qi (fun r g1 => r = f j ∧ g1 = g) (mB k ad N) (mA ad N z9)) (cc := cX0_at) (maxL := 2) (ret := (some .int)) (by decide) rfl (Nat.le_of_ble_eq_true rfl) ?_
  intro p e s m below meth c hx hb hr hts hown hlocks hml hin hE hI ls hl
  have hl : lv_has ls 2 [(0, .ref (ad i)), (1, .int (nI j))] := hl
  have h0 := hr0.1
  have h1 := hr0.2
  refine lv_aload_n hx hb dX0_at_0 rfl (lv_at hl 0 rfl) ?_
  refine lv_iload_n hx hb dX0_at_1 rfl (lv_at hl 1 rfl) ?_
  refine m_callVi (As := [.int (nI j)]) (rest := []) ⟨hx, hb, hml, hown, hts⟩ hE hI (c_X0_has k l ad N g _ i n z f ((nI j)) (by omega) (by omega) (by omega) ⟨h0, h1⟩) (cwV 1 hts gX0_at_X0_has rfl rfl rfl (by decide +kernel) ⟨Nat.le_of_ble_eq_true rfl, Nat.le_of_ble_eq_true rfl⟩) (i := i) (by omega) h0 rfl rfl hl.1 rfl (Nat.le_of_ble_eq_true rfl) dX0_at_2 ⟨Nat.le_of_ble_eq_true rfl, Nat.le_of_ble_eq_true rfl⟩ (m_deti (fun H locs hI => ?_))
  refine m_top (y := bI true) (by rw [inN_nI hj (by omega)]) ?_
  refine m_zeqB (tgt := 17) hx hb dX0_at_5 (by decide) (fun c => absurd c (by decide)) (fun c_5 => ?_)
  refine lv_aload_n hx hb dX0_at_8 rfl (lv_at hl 0 rfl) ?_
  refine m_get (ci := 0) (C := RX0) (T := TX0) (N' := 2) hx hb hts (by decide +kernel) hown hE hI i (by omega) h0 rfl 0 (by decide) (hts (.fieldLink RX0 7 "TapePrinter$Row" "values" "[I") (by decide +kernel)) rfl dX0_at_9 ?_
  refine lv_iload_n hx hb dX0_at_12 rfl (lv_at hl 1 rfl) ?_
  refine m_iald hx hb hE hI (i + 1) (by omega) (j := j) h1 (by omega) (by omega) dX0_at_13 ?_
  refine lv_goto (tgt := 18) hx hb dX0_at_14 (by decide) ?_
  exact m_iret hx hb hr hlocks hI (⟨rfl, rfl⟩) dX0_at_18
set_option maxHeartbeats 4000000 in
set_option maxRecDepth 100000 in
theorem c_X0_change (k : mC) (l : Launch) (ad : Nat → Nat) (N : Nat) (g : Nat → va_E) (sz : Nat) (i n z : Nat) (f : Nat → Int32) (j : Nat) (v : Int32) (hi : i + 1 < N) (hn : n < 2147483648) (hz : z ≤ n) (hr0 : CRow k ad g i n z f) (hj : j < z) : mCv k l yX0_change wsX0_change { frames := 1, cells := 0, slots := 0, locals := 21 } ad N g sz [.ref (ad i), .int (nI j), .int v] (fun g1 => g1 = va_up g (i + 1) (.inl (k.2.1.1, n, .inl (upd f j v)))) := by
  refine mOf (Qc := fun z9 => va_Qv (fun g1 => g1 = va_up g (i + 1) (.inl (k.2.1.1, n, .inl (upd f j v)))) (mB k ad N) (mA ad N z9)) (cc := cX0_change) (maxL := 3) (ret := none) (by decide) rfl (Nat.le_of_ble_eq_true rfl) ?_
  intro p e s m below meth c hx hb hr hts hown hlocks hml hin hE hI ls hl
  have hl : lv_has ls 3 [(0, .ref (ad i)), (1, .int (nI j)), (2, .int v)] := hl
  have h0 := hr0.1
  have h1 := hr0.2
  refine lv_aload_n hx hb dX0_change_0 rfl (lv_at hl 0 rfl) ?_
  refine lv_iload_n hx hb dX0_change_1 rfl (lv_at hl 1 rfl) ?_
  refine m_callVi (As := [.int (nI j)]) (rest := []) ⟨hx, hb, hml, hown, hts⟩ hE hI (c_X0_has k l ad N g _ i n z f ((nI j)) (by omega) (by omega) (by omega) ⟨h0, h1⟩) (cwV 1 hts gX0_change_X0_has rfl rfl rfl (by decide +kernel) ⟨Nat.le_of_ble_eq_true rfl, Nat.le_of_ble_eq_true rfl⟩) (i := i) (by omega) h0 rfl rfl hl.1 rfl (Nat.le_of_ble_eq_true rfl) dX0_change_2 ⟨Nat.le_of_ble_eq_true rfl, Nat.le_of_ble_eq_true rfl⟩ (m_deti (fun H locs hI => ?_))
  refine m_top (y := bI true) (by rw [inN_nI hj (by omega)]) ?_
  refine m_zeqB (tgt := 15) hx hb dX0_change_5 (by decide) (fun c => absurd c (by decide)) (fun c_5 => ?_)
  refine lv_aload_n hx hb dX0_change_8 rfl (lv_at hl 0 rfl) ?_
  refine m_get (ci := 0) (C := RX0) (T := TX0) (N' := 2) hx hb hts (by decide +kernel) hown hE hI i (by omega) h0 rfl 0 (by decide) (hts (.fieldLink RX0 7 "TapePrinter$Row" "values" "[I") (by decide +kernel)) rfl dX0_change_9 ?_
  refine lv_iload_n hx hb dX0_change_12 rfl (lv_at hl 1 rfl) ?_
  refine lv_iload_n hx hb dX0_change_13 rfl (lv_at hl 2 rfl) ?_
  refine m_iast hx hb hE hI (i + 1) (by omega) (j := j) h1 (by omega) (by omega) dX0_change_14 (fun H locs hI => ?_)
  obtain ⟨g1, hg1⟩ : ∃ zz, zz = va_up g (i + 1) (.inl (k.2.1.1, n, .inl (upd f j v))) := ⟨_, rfl⟩
  replace hI : mI k ad N g1 (mA ad N s.heap.size) s H locs := by rw [hg1]; exact hI
  have m_1 : g1 i = .inr (0, [.ref (ad (i + 1)), .int (nI z)]) := by rw [hg1, va_up_ne _ _ (by omega)]; exact h0
  have m_2 : g1 (i + 1) = .inl (k.2.1.1, n, .inl (upd f j v)) := by rw [hg1, va_up_self]
  exact m_vret hx hb hr hlocks hI (hg1) dX0_change_15
set_option maxHeartbeats 4000000 in
set_option maxRecDepth 100000 in
theorem c_X0_add_in (k : mC) (l : Launch) (ad : Nat → Nat) (N : Nat) (g : Nat → va_E) (sz : Nat) (i n z : Nat) (f : Nat → Int32) (v : Int32) (hi : i + 1 < N) (hn : n < 2147483648) (hz : z ≤ n) (hr0 : CRow k ad g i n z f) (hlt : z < n) : mCi k l yX0_add wsX0_add { frames := 0, cells := 0, slots := 0, locals := 0 } ad N g sz [.ref (ad i), .int v] (fun r g1 => r = bI true ∧ g1 = va_up (va_up g (i + 1) (.inl (k.2.1.1, n, .inl (upd f z v)))) i (.inr (0, [.ref (ad (i + 1)), .int (nI (z + 1))]))) := by
  refine mOf (Qc := fun z9 => va_Qi (fun r g1 => r = bI true ∧ g1 = va_up (va_up g (i + 1) (.inl (k.2.1.1, n, .inl (upd f z v)))) i (.inr (0, [.ref (ad (i + 1)), .int (nI (z + 1))]))) (mB k ad N) (mA ad N z9)) (cc := cX0_add) (maxL := 2) (ret := (some .boolean)) (by decide) rfl (Nat.le_of_ble_eq_true rfl) ?_
  intro p e s m below meth c hx hb hr hts hown hlocks hml hin hE hI ls hl
  have hl : lv_has ls 2 [(0, .ref (ad i)), (1, .int v)] := hl
  have h0 := hr0.1
  have h1 := hr0.2
  refine lv_aload_n hx hb dX0_add_0 rfl (lv_at hl 0 rfl) ?_
  refine m_get (ci := 0) (C := RX0) (T := TX0) (N' := 2) hx hb hts (by decide +kernel) hown hE hI i (by omega) h0 rfl 1 (by decide) (hts (.fieldLink RX0 13 "TapePrinter$Row" "size" "I") (by decide +kernel)) rfl dX0_add_1 ?_
  refine m_zltN (tgt := 19) hx hb (by omega) dX0_add_4 (by decide) ?_
  refine lv_aload_n hx hb dX0_add_7 rfl (lv_at hl 0 rfl) ?_
  refine m_get (ci := 0) (C := RX0) (T := TX0) (N' := 2) hx hb hts (by decide +kernel) hown hE hI i (by omega) h0 rfl 1 (by decide) (hts (.fieldLink RX0 13 "TapePrinter$Row" "size" "I") (by decide +kernel)) rfl dX0_add_8 ?_
  refine lv_aload_n hx hb dX0_add_11 rfl (lv_at hl 0 rfl) ?_
  refine m_get (ci := 0) (C := RX0) (T := TX0) (N' := 2) hx hb hts (by decide +kernel) hown hE hI i (by omega) h0 rfl 0 (by decide) (hts (.fieldLink RX0 7 "TapePrinter$Row" "values" "[I") (by decide +kernel)) rfl dX0_add_12 ?_
  refine m_aleni hx hb hE hI (i + 1) (by omega) h1 dX0_add_15 ?_
  refine m_cltN (tgt := 21) hx hb (by omega) (by omega) dX0_add_16 (by decide) (fun c_16 => ?_) (fun c_16 => ?_)
  · refine lv_aload_n hx hb dX0_add_21 rfl (lv_at hl 0 rfl) ?_
    refine m_get (ci := 0) (C := RX0) (T := TX0) (N' := 2) hx hb hts (by decide +kernel) hown hE hI i (by omega) h0 rfl 0 (by decide) (hts (.fieldLink RX0 7 "TapePrinter$Row" "values" "[I") (by decide +kernel)) rfl dX0_add_22 ?_
    refine lv_aload_n hx hb dX0_add_25 rfl (lv_at hl 0 rfl) ?_
    refine m_get (ci := 0) (C := RX0) (T := TX0) (N' := 2) hx hb hts (by decide +kernel) hown hE hI i (by omega) h0 rfl 1 (by decide) (hts (.fieldLink RX0 13 "TapePrinter$Row" "size" "I") (by decide +kernel)) rfl dX0_add_26 ?_
    refine lv_iload_n hx hb dX0_add_29 rfl (lv_at hl 1 rfl) ?_
    refine m_iast hx hb hE hI (i + 1) (by omega) (j := z) h1 (by omega) (by omega) dX0_add_30 (fun H locs hI => ?_)
    obtain ⟨g1, hg1⟩ : ∃ zz, zz = va_up g (i + 1) (.inl (k.2.1.1, n, .inl (upd f z v))) := ⟨_, rfl⟩
    replace hI : mI k ad N g1 (mA ad N s.heap.size) s H locs := by rw [hg1]; exact hI
    have m_1 : g1 i = .inr (0, [.ref (ad (i + 1)), .int (nI z)]) := by rw [hg1, va_up_ne _ _ (by omega)]; exact h0
    have m_2 : g1 (i + 1) = .inl (k.2.1.1, n, .inl (upd f z v)) := by rw [hg1, va_up_self]
    refine lv_aload_n hx hb dX0_add_31 rfl (lv_at hl 0 rfl) ?_
    refine lv_dup hx hb dX0_add_32 rfl ?_
    refine m_get (ci := 0) (C := RX0) (T := TX0) (N' := 2) hx hb hts (by decide +kernel) hown hE hI i (by omega) m_1 rfl 1 (by decide) (hts (.fieldLink RX0 13 "TapePrinter$Row" "size" "I") (by decide +kernel)) rfl dX0_add_33 ?_
    refine lv_iconst (v := nI 1) hx hb dX0_add_36 (by decide) ?_
    refine m_iaddN hx hb dX0_add_37 ?_
    refine m_put (ci := 0) (C := RX0) (T := TX0) (N' := 2) (ty := .int) hx hb hts (by decide +kernel) tyX0 tyX0_ok nmX0 hown hE hI i (by omega) m_1 rfl 1 (by decide) (hts (.fieldLink RX0 13 "TapePrinter$Row" "size" "I") (by decide +kernel)) rfl (by decide +kernel) rfl rfl (Nat.le_of_ble_eq_true rfl) dX0_add_38 (fun H locs hI => ?_)
    obtain ⟨g2, hg2⟩ : ∃ zz, zz = va_up g1 i (.inr (0, [.ref (ad (i + 1)), .int (nI (z + 1))])) := ⟨_, rfl⟩
    replace hI : mI k ad N g2 (mA ad N s.heap.size) s H locs := by rw [hg2]; exact hI
    have m_3 : g2 i = .inr (0, [.ref (ad (i + 1)), .int (nI (z + 1))]) := by rw [hg2, va_up_self]
    have m_4 : g2 (i + 1) = .inl (k.2.1.1, n, .inl (upd f z v)) := by rw [hg2, va_up_ne _ _ (by omega)]; exact m_2
    refine lv_iconst (v := nI 1) hx hb dX0_add_41 (by decide) ?_
    refine m_top (y := bI true) (by decide) ?_
    exact m_zret (v := true) hx hb hr hlocks hI (⟨rfl, by rw [hg2, hg1]⟩) dX0_add_42
  · exact absurd c_16 (by omega)
set_option maxHeartbeats 4000000 in
set_option maxRecDepth 100000 in
theorem c_X0_add_out (k : mC) (l : Launch) (ad : Nat → Nat) (N : Nat) (g : Nat → va_E) (sz : Nat) (i n z : Nat) (f : Nat → Int32) (v : Int32) (hi : i + 1 < N) (hn : n < 2147483648) (hz : z ≤ n) (hr0 : CRow k ad g i n z f) (hge : z = n) : mCi k l yX0_add wsX0_add { frames := 0, cells := 0, slots := 0, locals := 0 } ad N g sz [.ref (ad i), .int v] (fun r g1 => r = bI false ∧ g1 = g) := by
  refine mOf (Qc := fun z9 => va_Qi (fun r g1 => r = bI false ∧ g1 = g) (mB k ad N) (mA ad N z9)) (cc := cX0_add) (maxL := 2) (ret := (some .boolean)) (by decide) rfl (Nat.le_of_ble_eq_true rfl) ?_
  intro p e s m below meth c hx hb hr hts hown hlocks hml hin hE hI ls hl
  have hl : lv_has ls 2 [(0, .ref (ad i)), (1, .int v)] := hl
  have h0 := hr0.1
  have h1 := hr0.2
  refine lv_aload_n hx hb dX0_add_0 rfl (lv_at hl 0 rfl) ?_
  refine m_get (ci := 0) (C := RX0) (T := TX0) (N' := 2) hx hb hts (by decide +kernel) hown hE hI i (by omega) h0 rfl 1 (by decide) (hts (.fieldLink RX0 13 "TapePrinter$Row" "size" "I") (by decide +kernel)) rfl dX0_add_1 ?_
  refine m_zltN (tgt := 19) hx hb (by omega) dX0_add_4 (by decide) ?_
  refine lv_aload_n hx hb dX0_add_7 rfl (lv_at hl 0 rfl) ?_
  refine m_get (ci := 0) (C := RX0) (T := TX0) (N' := 2) hx hb hts (by decide +kernel) hown hE hI i (by omega) h0 rfl 1 (by decide) (hts (.fieldLink RX0 13 "TapePrinter$Row" "size" "I") (by decide +kernel)) rfl dX0_add_8 ?_
  refine lv_aload_n hx hb dX0_add_11 rfl (lv_at hl 0 rfl) ?_
  refine m_get (ci := 0) (C := RX0) (T := TX0) (N' := 2) hx hb hts (by decide +kernel) hown hE hI i (by omega) h0 rfl 0 (by decide) (hts (.fieldLink RX0 7 "TapePrinter$Row" "values" "[I") (by decide +kernel)) rfl dX0_add_12 ?_
  refine m_aleni hx hb hE hI (i + 1) (by omega) h1 dX0_add_15 ?_
  refine m_cltN (tgt := 21) hx hb (by omega) (by omega) dX0_add_16 (by decide) (fun c_16 => ?_) (fun c_16 => ?_)
  · exact absurd c_16 (by omega)
  · refine lv_iconst (v := nI 0) hx hb dX0_add_19 (by decide) ?_
    refine m_top (y := bI false) (by decide) ?_
    exact m_zret (v := false) hx hb hr hlocks hI (⟨rfl, rfl⟩) dX0_add_20
set_option maxHeartbeats 4000000 in
set_option maxRecDepth 100000 in
theorem c_X0_clear (k : mC) (l : Launch) (ad : Nat → Nat) (N : Nat) (g : Nat → va_E) (sz : Nat) (i n z : Nat) (f : Nat → Int32)  (hi : i + 1 < N) (hn : n < 2147483648) (hz : z ≤ n) (hr0 : CRow k ad g i n z f) : mCv k l yX0_clear wsX0_clear { frames := 0, cells := 0, slots := 0, locals := 0 } ad N g sz [.ref (ad i)] (fun g1 => g1 = va_up g i (.inr (0, [.ref (ad (i + 1)), .int (nI 0)]))) := by
  refine mOf (Qc := fun z9 => va_Qv (fun g1 => g1 = va_up g i (.inr (0, [.ref (ad (i + 1)), .int (nI 0)]))) (mB k ad N) (mA ad N z9)) (cc := cX0_clear) (maxL := 1) (ret := none) (by decide) rfl (Nat.le_of_ble_eq_true rfl) ?_
  intro p e s m below meth c hx hb hr hts hown hlocks hml hin hE hI ls hl
  have hl : lv_has ls 1 [(0, .ref (ad i))] := hl
  have h0 := hr0.1
  have h1 := hr0.2
  refine lv_aload_n hx hb dX0_clear_0 rfl (lv_at hl 0 rfl) ?_
  refine lv_iconst (v := nI 0) hx hb dX0_clear_1 (by decide) ?_
  refine m_put (ci := 0) (C := RX0) (T := TX0) (N' := 2) (ty := .int) hx hb hts (by decide +kernel) tyX0 tyX0_ok nmX0 hown hE hI i (by omega) h0 rfl 1 (by decide) (hts (.fieldLink RX0 13 "TapePrinter$Row" "size" "I") (by decide +kernel)) rfl (by decide +kernel) rfl rfl (Nat.le_of_ble_eq_true rfl) dX0_clear_2 (fun H locs hI => ?_)
  obtain ⟨g1, hg1⟩ : ∃ zz, zz = va_up g i (.inr (0, [.ref (ad (i + 1)), .int (nI 0)])) := ⟨_, rfl⟩
  replace hI : mI k ad N g1 (mA ad N s.heap.size) s H locs := by rw [hg1]; exact hI
  have m_1 : g1 i = .inr (0, [.ref (ad (i + 1)), .int (nI 0)]) := by rw [hg1, va_up_self]
  have m_2 : g1 (i + 1) = .inl (k.2.1.1, n, .inl f) := by rw [hg1, va_up_ne _ _ (by omega)]; exact h1
  exact m_vret hx hb hr hlocks hI (hg1) dX0_clear_5
end
section
/-- the sheet: its row objects stand at the roles 8 + 2 * j -/
abbrev CSh (k : mC) (ad : Nat → Nat) (g : Nat → va_E) (fi u : Nat) (z : Nat → Nat) (F : Nat → Nat → Nat) (r : Nat → Option Nat) : Prop :=
  g 6 = .inr (1, [.ref (ad 7), .int (nI fi), .int (nI u)]) ∧ g 7 = .inl (k.2.1.2.1, 20, .inr (.inr (.inr (.inr r)))) ∧ (∀ j, j < 20 → r j = some (ad (8 + 2 * j))) ∧ ∀ j, j < 20 → CRow k ad g (8 + 2 * j) 40 (z j) (fun i => nI (F j i)) ∧ z j ≤ 40
/-- the slot of a line -/
def slt (fi l : Nat) : Nat := (fi + l) % 20
theorem slt_lt (fi l : Nat) : slt fi l < 20 := Nat.mod_lt _ (by omega)
/-- characters of the first n lines -/
def sumz (z : Nat → Nat) (fi : Nat) : Nat → Nat
  | 0 => 0
  | n + 1 => sumz z fi n + z (slt fi n)
theorem sumz_le {z : Nat → Nat} (h : ∀ j, j < 20 → z j ≤ 40) (fi n : Nat) : sumz z fi n ≤ 40 * n := by
  induction n with
  | zero => exact Nat.le_refl _
  | succ n ih => have := h _ (slt_lt fi n); simp only [sumz]; omega
/-- the wire -/
abbrev CWi (k : mC) (ad : Nat → Nat) (g : Nat → va_E) (play : Nat) (lat : Nat → Int32) (gar : Nat → Nat) : Prop :=
  g 1 = .inr (2, [.ref (ad 2), .ref (ad 4), .int (nI play)]) ∧ CRow k ad g 2 16 16 lat ∧ CRow k ad g 4 16 16 (fun j => nI (gar j))
/-- what a code is read as: the play, the lateness, the garbled units, the code -/
def rdF (play : Nat) (lt : Int32) (q c : Nat) : Nat := if nI play < lt then (c ^^^ q) / 2 else if nI play < -lt then (2 * (c ^^^ q) + 1) % 32 else c ^^^ q
theorem xor32 : ∀ a, a < 32 → ∀ b, b < 32 → nI a ^^^ nI b = nI (a ^^^ b) ∧ a ^^^ b < 32 := by decide +kernel
theorem shr32 : ∀ a, a < 32 → nI a >>> (nI 1 &&& 31) = nI (a / 2) := by decide +kernel
theorem shl32 : ∀ a, a < 32 → ((nI a <<< (nI 1 &&& 31)) ||| nI 1) &&& nI 31 = nI ((2 * a + 1) % 32) := by decide +kernel
theorem rdF_lt {play q c : Nat} {lt : Int32} (hc : c < 32) (hq : q < 32) : rdF play lt q c < 32 := by
  have h := (xor32 c hc q hq).2
  unfold rdF
  split
  · omega
  · split <;> omega
theorem slt_back {fi : Nat} (h : fi < 20) : slt (slt fi 1) 19 = fi := by unfold slt; omega
theorem upd_nI (f : Nat → Nat) (n v : Nat) : upd (fun i => nI (f i)) n (nI v) = fun i => nI (va_up f n v i) := by
  funext i
  unfold upd va_up
  split <;> rfl
theorem CRow.kept {k : mC} {ad : Nat → Nat} {g g1 : Nat → va_E} {i n z : Nat} {f : Nat → Int32} (h : CRow k ad g i n z f) (h1 : g1 i = g i) (h2 : g1 (i + 1) = g (i + 1)) : CRow k ad g1 i n z f := ⟨h1.trans h.1, h2.trans h.2⟩
theorem CSh.six {k : mC} {ad : Nat → Nat} {g : Nat → va_E} {fi u : Nat} {z : Nat → Nat} {F : Nat → Nat → Nat} {r : Nat → Option Nat} (h : CSh k ad g fi u z F r) (fi1 u1 : Nat) : CSh k ad (va_up g 6 (.inr (1, [.ref (ad 7), .int (nI fi1), .int (nI u1)]))) fi1 u1 z F r := by
  obtain ⟨-, h7, hr, hrow⟩ := h
  refine ⟨va_up_self _ _ _, (va_up_ne _ _ (by omega)).trans h7, hr, fun j hj => ⟨(hrow j hj).1.kept (va_up_ne _ _ (by omega)) (va_up_ne _ _ (by omega)), (hrow j hj).2⟩⟩
/-- one row of the page anew -/
theorem CSh.put {k : mC} {ad : Nat → Nat} {g g1 : Nat → va_E} {fi u : Nat} {z : Nat → Nat} {F : Nat → Nat → Nat} {r : Nat → Option Nat} (h : CSh k ad g fi u z F r) {q n : Nat} {f : Nat → Nat} (hn : n ≤ 40) (hq : CRow k ad g1 (8 + 2 * q) 40 n (fun i => nI (f i))) (ho : ∀ i, i ≠ 8 + 2 * q → i ≠ 8 + 2 * q + 1 → g1 i = g i) : CSh k ad g1 fi u (va_up z q n) (va_up F q f) r := by
  obtain ⟨h6, h7, hr, hrow⟩ := h
  refine ⟨(ho 6 (by omega) (by omega)).trans h6, (ho 7 (by omega) (by omega)).trans h7, hr, fun j hj => ?_⟩
  by_cases hjq : j = q
  · subst hjq
    rw [va_up_self, va_up_self]
    exact ⟨hq, hn⟩
  · rw [va_up_ne _ _ hjq, va_up_ne _ _ hjq]
    exact ⟨(hrow j hj).1.kept (ho _ (by omega) (by omega)) (ho _ (by omega) (by omega)), (hrow j hj).2⟩
theorem CSh.kept {k : mC} {ad : Nat → Nat} {g g1 : Nat → va_E} {fi u : Nat} {z : Nat → Nat} {F : Nat → Nat → Nat} {r : Nat → Option Nat} (h : CSh k ad g fi u z F r) (ho : ∀ i, 6 ≤ i → i < 48 → g1 i = g i) : CSh k ad g1 fi u z F r :=
  ⟨(ho 6 (by omega) (by omega)).trans h.1, (ho 7 (by omega) (by omega)).trans h.2.1, h.2.2.1, fun j hj => ⟨(h.2.2.2 j hj).1.kept (ho _ (by omega) (by omega)) (ho _ (by omega) (by omega)), (h.2.2.2 j hj).2⟩⟩
theorem va_up_id {α : Type} (f : Nat → α) (k : Nat) : va_up f k (f k) = f := by
  funext i
  unfold va_up
  split
  · rename_i h; rw [h]
  · rfl
set_option maxHeartbeats 4000000 in
set_option maxRecDepth 100000 in
theorem c_X1_lines (k : mC) (l : Launch) (ad : Nat → Nat) (N : Nat) (g : Nat → va_E) (sz : Nat) (fi u : Nat) (z : Nat → Nat) (F : Nat → Nat → Nat) (r : Nat → Option Nat)  (hN : 48 ≤ N) (hfi : fi < 20) (hu : u ≤ 20) (hu0 : 0 < u) (hS0 : CSh k ad g fi u z F r) : mCi k l yX1_lines wsX1_lines { frames := 0, cells := 0, slots := 0, locals := 0 } ad N g sz [.ref (ad 6)] (fun r1 g1 => r1 = nI u ∧ g1 = g) := by
  refine mOf (Qc := fun z9 => va_Qi (fun r1 g1 => r1 = nI u ∧ g1 = g) (mB k ad N) (mA ad N z9)) (cc := cX1_lines) (maxL := 1) (ret := (some .int)) (by decide) rfl (Nat.le_of_ble_eq_true rfl) ?_
  intro p e s m below meth c hx hb hr hts hown hlocks hml hin hE hI ls hl
  have hl : lv_has ls 1 [(0, .ref (ad 6))] := hl
  obtain ⟨h6, h7, hr0, hrow⟩ := id hS0
  refine lv_aload_n hx hb dX1_lines_0 rfl (lv_at hl 0 rfl) ?_
  refine m_get (ci := 1) (C := RX1) (T := TX1) (N' := 3) hx hb hts (by decide +kernel) hown hE hI 6 (by omega) h6 rfl 2 (by decide) (hts (.fieldLink RX1 17 "TapePrinter$Sheet" "used" "I") (by decide +kernel)) rfl dX1_lines_1 ?_
  exact m_iret hx hb hr hlocks hI (⟨rfl, rfl⟩) dX1_lines_4
set_option maxHeartbeats 4000000 in
set_option maxRecDepth 100000 in
theorem c_X1_row_in (k : mC) (l : Launch) (ad : Nat → Nat) (N : Nat) (g : Nat → va_E) (sz : Nat) (fi u : Nat) (z : Nat → Nat) (F : Nat → Nat → Nat) (r : Nat → Option Nat) (ln : Nat) (hN : 48 ≤ N) (hfi : fi < 20) (hu : u ≤ 20) (hu0 : 0 < u) (hS0 : CSh k ad g fi u z F r) (hlu : ln < u) : mCq k l yX1_row wsX1_row { frames := 0, cells := 0, slots := 0, locals := 0 } ad N g sz [.ref (ad 6), .int (nI ln)] (fun r1 g1 => r1 = some (ad (8 + 2 * slt fi ln)) ∧ g1 = g) := by
  refine mOf (Qc := fun z9 => va_Qq (fun r1 g1 => r1 = some (ad (8 + 2 * slt fi ln)) ∧ g1 = g) (mB k ad N) (mA ad N z9)) (cc := cX1_row) (maxL := 3) (ret := (some (.object "TapePrinter$Row"))) (by decide) rfl (Nat.le_of_ble_eq_true rfl) ?_
  intro p e s m below meth c hx hb hr hts hown hlocks hml hin hE hI ls hl
  have hl : lv_has ls 3 [(0, .ref (ad 6)), (1, .int (nI ln))] := hl
  obtain ⟨h6, h7, hr0, hrow⟩ := id hS0
  refine lv_iload_n hx hb dX1_row_0 rfl (lv_at hl 1 rfl) ?_
  refine m_zltN (tgt := 12) hx hb (by omega) dX1_row_1 (by decide) ?_
  refine lv_iload_n hx hb dX1_row_4 rfl (lv_at hl 1 rfl) ?_
  refine lv_aload_n hx hb dX1_row_5 rfl (lv_at hl 0 rfl) ?_
  refine m_get (ci := 1) (C := RX1) (T := TX1) (N' := 3) hx hb hts (by decide +kernel) hown hE hI 6 (by omega) h6 rfl 2 (by decide) (hts (.fieldLink RX1 17 "TapePrinter$Sheet" "used" "I") (by decide +kernel)) rfl dX1_row_6 ?_
  refine m_cltN (tgt := 14) hx hb (by omega) (by omega) dX1_row_9 (by decide) (fun c_9 => ?_) (fun c_9 => ?_)
  · refine lv_aload_n hx hb dX1_row_14 rfl (lv_at hl 0 rfl) ?_
    refine m_get (ci := 1) (C := RX1) (T := TX1) (N' := 3) hx hb hts (by decide +kernel) hown hE hI 6 (by omega) h6 rfl 1 (by decide) (hts (.fieldLink RX1 24 "TapePrinter$Sheet" "first" "I") (by decide +kernel)) rfl dX1_row_15 ?_
    refine lv_iload_n hx hb dX1_row_18 rfl (lv_at hl 1 rfl) ?_
    refine m_iaddN hx hb dX1_row_19 ?_
    refine lv_bipush (v := nI 20) hx hb dX1_row_20 (by decide) ?_
    refine m_iremN hx hb (by omega) (by omega) (by omega) dX1_row_22 ?_
    refine m_top (show nI ((fi + ln) % 20) = nI (slt fi ln) from rfl) ?_
    have hsl := slt_lt fi ln
    refine lv_istore_n (lv' := [(2, .int (nI (slt fi ln))), (0, .ref (ad 6)), (1, .int (nI ln))]) hx hb dX1_row_23 rfl hl (by decide) rfl (fun ls hl => ?_)
    refine lv_iload_n hx hb dX1_row_24 rfl (lv_at hl 0 rfl) ?_
    refine m_zltN (tgt := 46) hx hb (by omega) dX1_row_25 (by decide) ?_
    refine lv_iload_n hx hb dX1_row_28 rfl (lv_at hl 0 rfl) ?_
    refine lv_aload_n hx hb dX1_row_29 rfl (lv_at hl 1 rfl) ?_
    refine m_get (ci := 1) (C := RX1) (T := TX1) (N' := 3) hx hb hts (by decide +kernel) hown hE hI 6 (by omega) h6 rfl 0 (by decide) (hts (.fieldLink RX1 11 "TapePrinter$Sheet" "rows" "[LTapePrinter$Row;") (by decide +kernel)) rfl dX1_row_30 ?_
    refine m_alenq hx hb hE hI 7 (by omega) h7 dX1_row_33 ?_
    refine m_cgeN (tgt := 46) hx hb (by omega) (by omega) dX1_row_34 (by decide) (fun c_34 => ?_) (fun c_34 => ?_)
    · exact absurd c_34 (by omega)
    · refine lv_aload_n hx hb dX1_row_37 rfl (lv_at hl 1 rfl) ?_
      refine m_get (ci := 1) (C := RX1) (T := TX1) (N' := 3) hx hb hts (by decide +kernel) hown hE hI 6 (by omega) h6 rfl 0 (by decide) (hts (.fieldLink RX1 11 "TapePrinter$Sheet" "rows" "[LTapePrinter$Row;") (by decide +kernel)) rfl dX1_row_38 ?_
      refine lv_iload_n hx hb dX1_row_41 rfl (lv_at hl 0 rfl) ?_
      refine m_aldq hx hb hE hI 7 (by omega) (j := slt fi ln) h7 (by omega) (by omega) dX1_row_42 ?_
      refine m_rf (hr0 _ (slt_lt fi ln)) ?_
      refine lv_goto (tgt := 47) hx hb dX1_row_43 (by decide) ?_
      exact m_aret (v := some (ad (8 + 2 * slt fi ln))) hx hb hr hlocks hI (⟨rfl, rfl⟩) dX1_row_47
  · exact absurd c_9 (by omega)
set_option maxHeartbeats 4000000 in
set_option maxRecDepth 100000 in
theorem c_X1_row_out (k : mC) (l : Launch) (ad : Nat → Nat) (N : Nat) (g : Nat → va_E) (sz : Nat) (fi u : Nat) (z : Nat → Nat) (F : Nat → Nat → Nat) (r : Nat → Option Nat) (x : Int32) (hN : 48 ≤ N) (hfi : fi < 20) (hu : u ≤ 20) (hu0 : 0 < u) (hS0 : CSh k ad g fi u z F r) (ho : x < 0 ∨ nI u ≤ x) : mCq k l yX1_row wsX1_row { frames := 0, cells := 0, slots := 0, locals := 0 } ad N g sz [.ref (ad 6), .int x] (fun r1 g1 => r1 = none ∧ g1 = g) := by
  refine mOf (Qc := fun z9 => va_Qq (fun r1 g1 => r1 = none ∧ g1 = g) (mB k ad N) (mA ad N z9)) (cc := cX1_row) (maxL := 3) (ret := (some (.object "TapePrinter$Row"))) (by decide) rfl (Nat.le_of_ble_eq_true rfl) ?_
  intro p e s m below meth c hx hb hr hts hown hlocks hml hin hE hI ls hl
  have hl : lv_has ls 3 [(0, .ref (ad 6)), (1, .int x)] := hl
  obtain ⟨h6, h7, hr0, hrow⟩ := id hS0
  refine lv_iload_n hx hb dX1_row_0 rfl (lv_at hl 1 rfl) ?_
  refine lv_if_lt (tgt := 12) hx hb dX1_row_1 (by decide) (fun c_1 => ?_) (fun c_1 => ?_)
  · refine lv_null hx hb dX1_row_12 ?_
    exact m_aret (v := none) hx hb hr hlocks hI (⟨rfl, rfl⟩) dX1_row_13
  · refine lv_iload_n hx hb dX1_row_4 rfl (lv_at hl 1 rfl) ?_
    refine lv_aload_n hx hb dX1_row_5 rfl (lv_at hl 0 rfl) ?_
    refine m_get (ci := 1) (C := RX1) (T := TX1) (N' := 3) hx hb hts (by decide +kernel) hown hE hI 6 (by omega) h6 rfl 2 (by decide) (hts (.fieldLink RX1 17 "TapePrinter$Sheet" "used" "I") (by decide +kernel)) rfl dX1_row_6 ?_
    refine lv_icmp_lt (tgt := 14) hx hb dX1_row_9 (by decide) (fun c_9 => ?_) (fun c_9 => ?_)
    · exact absurd ho (fun q => q.elim c_1 (fun q => by
          rw [Int32.lt_iff_toInt_lt] at c_9; rw [Int32.le_iff_toInt_le] at q; omega))
    · refine lv_null hx hb dX1_row_12 ?_
      exact m_aret (v := none) hx hb hr hlocks hI (⟨rfl, rfl⟩) dX1_row_13
set_option maxHeartbeats 4000000 in
set_option maxRecDepth 100000 in
theorem c_X1_add_in (k : mC) (l : Launch) (ad : Nat → Nat) (N : Nat) (g : Nat → va_E) (sz : Nat) (fi u : Nat) (z : Nat → Nat) (F : Nat → Nat → Nat) (r : Nat → Option Nat) (ch : Nat) (hN : 48 ≤ N) (hfi : fi < 20) (hu : u ≤ 20) (hu0 : 0 < u) (hS0 : CSh k ad g fi u z F r) (hz : z (slt fi (u - 1)) < 40) : mCi k l yX1_add wsX1_add { frames := 1, cells := 0, slots := 0, locals := 22 } ad N g sz [.ref (ad 6), .int (nI ch)] (fun r1 g1 => r1 = bI true ∧ CSh k ad g1 fi u (va_up z (slt fi (u - 1)) (z (slt fi (u - 1)) + 1)) (va_up F (slt fi (u - 1)) (va_up (F (slt fi (u - 1))) (z (slt fi (u - 1))) ch)) r ∧ ∀ i, (i < 8 ∨ 48 ≤ i) → g1 i = g i) := by
  refine mOf (Qc := fun z9 => va_Qi (fun r1 g1 => r1 = bI true ∧ CSh k ad g1 fi u (va_up z (slt fi (u - 1)) (z (slt fi (u - 1)) + 1)) (va_up F (slt fi (u - 1)) (va_up (F (slt fi (u - 1))) (z (slt fi (u - 1))) ch)) r ∧ ∀ i, (i < 8 ∨ 48 ≤ i) → g1 i = g i) (mB k ad N) (mA ad N z9)) (cc := cX1_add) (maxL := 3) (ret := (some .boolean)) (by decide) rfl (Nat.le_of_ble_eq_true rfl) ?_
  intro p e s m below meth c hx hb hr hts hown hlocks hml hin hE hI ls hl
  have hl : lv_has ls 3 [(0, .ref (ad 6)), (1, .int (nI ch))] := hl
  obtain ⟨h6, h7, hr0, hrow⟩ := id hS0
  have hq_1l : slt fi (u - 1) < 20 := slt_lt _ _
  have hq_1 := hrow (slt fi (u - 1)) hq_1l
  have hq_1a := hq_1.1.1
  have hq_1b := hq_1.1.2
  have hq_1c := hq_1.2
  refine lv_aload_n hx hb dX1_add_0 rfl (lv_at hl 0 rfl) ?_
  refine lv_aload_n hx hb dX1_add_1 rfl (lv_at hl 0 rfl) ?_
  refine m_get (ci := 1) (C := RX1) (T := TX1) (N' := 3) hx hb hts (by decide +kernel) hown hE hI 6 (by omega) h6 rfl 2 (by decide) (hts (.fieldLink RX1 17 "TapePrinter$Sheet" "used" "I") (by decide +kernel)) rfl dX1_add_2 ?_
  refine lv_iconst (v := nI 1) hx hb dX1_add_5 (by decide) ?_
  refine m_isubN hx hb (by omega) dX1_add_6 ?_
  refine m_callVq (As := [.int (nI (u - 1))]) (rest := []) ⟨hx, hb, hml, hown, hts⟩ hE hI (c_X1_row_in k l ad N g _ fi u z F r (u - 1) (by omega) (by omega) (by omega) (by omega) hS0 (by omega)) (cwV 1 hts gX1_add_X1_row rfl rfl rfl (by decide +kernel) ⟨Nat.le_of_ble_eq_true rfl, Nat.le_of_ble_eq_true rfl⟩) (i := 6) (by omega) h6 rfl rfl hl.1 rfl (Nat.le_of_ble_eq_true rfl) dX1_add_7 ⟨Nat.le_of_ble_eq_true rfl, Nat.le_of_ble_eq_true rfl⟩ (m_detq (fun H locs hI => ?_))
  refine m_rf rfl ?_
  refine lv_astore_n (lv' := [(2, .ref (ad (8 + 2 * slt fi (u - 1)))), (0, .ref (ad 6)), (1, .int (nI ch))]) hx hb dX1_add_10 rfl hl (by decide) rfl (fun ls hl => ?_)
  refine lv_aload_n hx hb dX1_add_11 rfl (lv_at hl 0 rfl) ?_
  refine lv_ifnull hx hb dX1_add_12 ?_
  refine lv_aload_n hx hb dX1_add_15 rfl (lv_at hl 0 rfl) ?_
  refine lv_iload_n hx hb dX1_add_16 rfl (lv_at hl 2 rfl) ?_
  refine m_callVi (As := [.int (nI ch)]) (rest := []) ⟨hx, hb, hml, hown, hts⟩ hE hI (c_X0_add_in k l ad N g _ (8 + 2 * slt fi (u - 1)) 40 (z (slt fi (u - 1))) (fun ii => nI (F (slt fi (u - 1)) ii)) (nI ch) (by omega) (by omega) (by omega) ⟨hq_1a, hq_1b⟩ (by omega)) (cwV 1 hts gX1_add_X0_add rfl rfl rfl (by decide +kernel) ⟨Nat.le_of_ble_eq_true rfl, Nat.le_of_ble_eq_true rfl⟩) (i := (8 + 2 * slt fi (u - 1))) (by omega) hq_1a rfl rfl hl.1 rfl (Nat.le_of_ble_eq_true rfl) dX1_add_17 ⟨Nat.le_of_ble_eq_true rfl, Nat.le_of_ble_eq_true rfl⟩ (m_deti (fun H locs hI => ?_))
  obtain ⟨g1, hg1⟩ : ∃ zz, zz = va_up (va_up g (8 + 2 * slt fi (u - 1) + 1) (.inl (k.2.1.1, 40, .inl (upd (fun ii => nI (F (slt fi (u - 1)) ii)) (z (slt fi (u - 1))) (nI ch))))) (8 + 2 * slt fi (u - 1)) (.inr (0, [.ref (ad (8 + 2 * slt fi (u - 1) + 1)), .int (nI ((z (slt fi (u - 1))) + 1))])) := ⟨_, rfl⟩
  replace hI : mI k ad N g1 (mA ad N s.heap.size) s H locs := by rw [hg1]; exact hI
  have m_2 : g1 6 = .inr (1, [.ref (ad 7), .int (nI fi), .int (nI u)]) := by rw [hg1, va_up_ne _ _ (by omega), va_up_ne _ _ (by omega)]; exact h6
  have m_3 : g1 7 = .inl (k.2.1.2.1, 20, .inr (.inr (.inr (.inr r)))) := by rw [hg1, va_up_ne _ _ (by omega), va_up_ne _ _ (by omega)]; exact h7
  have m_4 : g1 (8 + 2 * slt fi (u - 1)) = .inr (0, [.ref (ad (8 + 2 * slt fi (u - 1) + 1)), .int (nI ((z (slt fi (u - 1))) + 1))]) := by rw [hg1, va_up_self]
  have m_5 : g1 (8 + 2 * slt fi (u - 1) + 1) = .inl (k.2.1.1, 40, .inl (upd (fun ii => nI (F (slt fi (u - 1)) ii)) (z (slt fi (u - 1))) (nI ch))) := by rw [hg1, va_up_ne _ _ (by omega), va_up_self]
  refine m_zeqB (tgt := 27) hx hb dX1_add_20 (by decide) (fun c => absurd c (by decide)) (fun c_20 => ?_)
  refine lv_iconst (v := nI 1) hx hb dX1_add_23 (by decide) ?_
  refine lv_goto (tgt := 28) hx hb dX1_add_24 (by decide) ?_
  have hrw : CRow k ad g1 (8 + 2 * slt fi (u - 1)) 40 (z (slt fi (u - 1)) + 1) (fun i => nI (va_up (F (slt fi (u - 1))) (z (slt fi (u - 1))) ch i)) := ⟨m_4, by rw [m_5, upd_nI]⟩
  refine m_top (y := bI true) (by decide) ?_
  exact m_zret (v := true) hx hb hr hlocks hI (⟨rfl, hS0.put (by omega) hrw (fun i h1 h2 => by rw [hg1, va_up_ne _ _ h1, va_up_ne _ _ h2]), fun i hi => by rw [hg1, va_up_ne _ _ (by omega), va_up_ne _ _ (by omega)]⟩) dX1_add_28
set_option maxHeartbeats 4000000 in
set_option maxRecDepth 100000 in
theorem c_X1_add_out (k : mC) (l : Launch) (ad : Nat → Nat) (N : Nat) (g : Nat → va_E) (sz : Nat) (fi u : Nat) (z : Nat → Nat) (F : Nat → Nat → Nat) (r : Nat → Option Nat) (ch : Nat) (hN : 48 ≤ N) (hfi : fi < 20) (hu : u ≤ 20) (hu0 : 0 < u) (hS0 : CSh k ad g fi u z F r) (hz : z (slt fi (u - 1)) = 40) : mCi k l yX1_add wsX1_add { frames := 1, cells := 0, slots := 0, locals := 22 } ad N g sz [.ref (ad 6), .int (nI ch)] (fun r1 g1 => r1 = bI false ∧ g1 = g) := by
  refine mOf (Qc := fun z9 => va_Qi (fun r1 g1 => r1 = bI false ∧ g1 = g) (mB k ad N) (mA ad N z9)) (cc := cX1_add) (maxL := 3) (ret := (some .boolean)) (by decide) rfl (Nat.le_of_ble_eq_true rfl) ?_
  intro p e s m below meth c hx hb hr hts hown hlocks hml hin hE hI ls hl
  have hl : lv_has ls 3 [(0, .ref (ad 6)), (1, .int (nI ch))] := hl
  obtain ⟨h6, h7, hr0, hrow⟩ := id hS0
  have hq_1l : slt fi (u - 1) < 20 := slt_lt _ _
  have hq_1 := hrow (slt fi (u - 1)) hq_1l
  have hq_1a := hq_1.1.1
  have hq_1b := hq_1.1.2
  have hq_1c := hq_1.2
  refine lv_aload_n hx hb dX1_add_0 rfl (lv_at hl 0 rfl) ?_
  refine lv_aload_n hx hb dX1_add_1 rfl (lv_at hl 0 rfl) ?_
  refine m_get (ci := 1) (C := RX1) (T := TX1) (N' := 3) hx hb hts (by decide +kernel) hown hE hI 6 (by omega) h6 rfl 2 (by decide) (hts (.fieldLink RX1 17 "TapePrinter$Sheet" "used" "I") (by decide +kernel)) rfl dX1_add_2 ?_
  refine lv_iconst (v := nI 1) hx hb dX1_add_5 (by decide) ?_
  refine m_isubN hx hb (by omega) dX1_add_6 ?_
  refine m_callVq (As := [.int (nI (u - 1))]) (rest := []) ⟨hx, hb, hml, hown, hts⟩ hE hI (c_X1_row_in k l ad N g _ fi u z F r (u - 1) (by omega) (by omega) (by omega) (by omega) hS0 (by omega)) (cwV 1 hts gX1_add_X1_row rfl rfl rfl (by decide +kernel) ⟨Nat.le_of_ble_eq_true rfl, Nat.le_of_ble_eq_true rfl⟩) (i := 6) (by omega) h6 rfl rfl hl.1 rfl (Nat.le_of_ble_eq_true rfl) dX1_add_7 ⟨Nat.le_of_ble_eq_true rfl, Nat.le_of_ble_eq_true rfl⟩ (m_detq (fun H locs hI => ?_))
  refine m_rf rfl ?_
  refine lv_astore_n (lv' := [(2, .ref (ad (8 + 2 * slt fi (u - 1)))), (0, .ref (ad 6)), (1, .int (nI ch))]) hx hb dX1_add_10 rfl hl (by decide) rfl (fun ls hl => ?_)
  refine lv_aload_n hx hb dX1_add_11 rfl (lv_at hl 0 rfl) ?_
  refine lv_ifnull hx hb dX1_add_12 ?_
  refine lv_aload_n hx hb dX1_add_15 rfl (lv_at hl 0 rfl) ?_
  refine lv_iload_n hx hb dX1_add_16 rfl (lv_at hl 2 rfl) ?_
  refine m_callVi (As := [.int (nI ch)]) (rest := []) ⟨hx, hb, hml, hown, hts⟩ hE hI (c_X0_add_out k l ad N g _ (8 + 2 * slt fi (u - 1)) 40 (z (slt fi (u - 1))) (fun ii => nI (F (slt fi (u - 1)) ii)) (nI ch) (by omega) (by omega) (by omega) ⟨hq_1a, hq_1b⟩ (by omega)) (cwV 1 hts gX1_add_X0_add rfl rfl rfl (by decide +kernel) ⟨Nat.le_of_ble_eq_true rfl, Nat.le_of_ble_eq_true rfl⟩) (i := (8 + 2 * slt fi (u - 1))) (by omega) hq_1a rfl rfl hl.1 rfl (Nat.le_of_ble_eq_true rfl) dX1_add_17 ⟨Nat.le_of_ble_eq_true rfl, Nat.le_of_ble_eq_true rfl⟩ (m_deti (fun H locs hI => ?_))
  refine m_zeqB (tgt := 27) hx hb dX1_add_20 (by decide) (fun c_20 => ?_) (fun c => absurd c (by decide))
  refine lv_iconst (v := nI 0) hx hb dX1_add_27 (by decide) ?_
  refine m_top (y := bI false) (by decide) ?_
  exact m_zret (v := false) hx hb hr hlocks hI (⟨rfl, rfl⟩) dX1_add_28
set_option maxHeartbeats 4000000 in
set_option maxRecDepth 100000 in
theorem c_X1_beginLine_lo (k : mC) (l : Launch) (ad : Nat → Nat) (N : Nat) (g : Nat → va_E) (sz : Nat) (fi u : Nat) (z : Nat → Nat) (F : Nat → Nat → Nat) (r : Nat → Option Nat)  (hN : 48 ≤ N) (hfi : fi < 20) (hu : u ≤ 20) (hu0 : 0 < u) (hS0 : CSh k ad g fi u z F r) (hlo : u < 20) : mCv k l yX1_beginLine wsX1_beginLine { frames := 1, cells := 0, slots := 0, locals := 22 } ad N g sz [.ref (ad 6)] (fun g1 => CSh k ad g1 fi (u + 1) (va_up z (slt fi u) 0) F r ∧ ∀ i, (i < 6 ∨ 48 ≤ i) → g1 i = g i) := by
  refine mOf (Qc := fun z9 => va_Qv (fun g1 => CSh k ad g1 fi (u + 1) (va_up z (slt fi u) 0) F r ∧ ∀ i, (i < 6 ∨ 48 ≤ i) → g1 i = g i) (mB k ad N) (mA ad N z9)) (cc := cX1_beginLine) (maxL := 2) (ret := none) (by decide) rfl (Nat.le_of_ble_eq_true rfl) ?_
  intro p e s m below meth c hx hb hr hts hown hlocks hml hin hE hI ls hl
  have hl : lv_has ls 2 [(0, .ref (ad 6))] := hl
  obtain ⟨h6, h7, hr0, hrow⟩ := id hS0
  have hq_1l : slt fi u < 20 := slt_lt _ _
  have hq_1 := hrow (slt fi u) hq_1l
  have hq_1a := hq_1.1.1
  have hq_1b := hq_1.1.2
  have hq_1c := hq_1.2
  refine lv_aload_n hx hb dX1_beginLine_0 rfl (lv_at hl 0 rfl) ?_
  refine m_get (ci := 1) (C := RX1) (T := TX1) (N' := 3) hx hb hts (by decide +kernel) hown hE hI 6 (by omega) h6 rfl 2 (by decide) (hts (.fieldLink RX1 17 "TapePrinter$Sheet" "used" "I") (by decide +kernel)) rfl dX1_beginLine_1 ?_
  refine lv_bipush (v := nI 20) hx hb dX1_beginLine_4 (by decide) ?_
  refine m_cgeN (tgt := 22) hx hb (by omega) (by omega) dX1_beginLine_6 (by decide) (fun c_6 => ?_) (fun c_6 => ?_)
  · exact absurd c_6 (by omega)
  · refine lv_aload_n hx hb dX1_beginLine_9 rfl (lv_at hl 0 rfl) ?_
    refine lv_dup hx hb dX1_beginLine_10 rfl ?_
    refine m_get (ci := 1) (C := RX1) (T := TX1) (N' := 3) hx hb hts (by decide +kernel) hown hE hI 6 (by omega) h6 rfl 2 (by decide) (hts (.fieldLink RX1 17 "TapePrinter$Sheet" "used" "I") (by decide +kernel)) rfl dX1_beginLine_11 ?_
    refine lv_iconst (v := nI 1) hx hb dX1_beginLine_14 (by decide) ?_
    refine m_iaddN hx hb dX1_beginLine_15 ?_
    refine m_put (ci := 1) (C := RX1) (T := TX1) (N' := 3) (ty := .int) hx hb hts (by decide +kernel) tyX1 tyX1_ok nmX1 hown hE hI 6 (by omega) h6 rfl 2 (by decide) (hts (.fieldLink RX1 17 "TapePrinter$Sheet" "used" "I") (by decide +kernel)) rfl (by decide +kernel) rfl rfl (Nat.le_of_ble_eq_true rfl) dX1_beginLine_16 (fun H locs hI => ?_)
    obtain ⟨g1, hg1⟩ : ∃ zz, zz = va_up g 6 (.inr (1, [.ref (ad 7), .int (nI fi), .int (nI (u + 1))])) := ⟨_, rfl⟩
    replace hI : mI k ad N g1 (mA ad N s.heap.size) s H locs := by rw [hg1]; exact hI
    have m_2 : g1 6 = .inr (1, [.ref (ad 7), .int (nI fi), .int (nI (u + 1))]) := by rw [hg1, va_up_self]
    have m_3 : g1 7 = .inl (k.2.1.2.1, 20, .inr (.inr (.inr (.inr r)))) := by rw [hg1, va_up_ne _ _ (by omega)]; exact h7
    have m_4 : g1 (8 + 2 * slt fi u) = .inr (0, [.ref (ad (8 + 2 * slt fi u + 1)), .int (nI (z (slt fi u)))]) := by rw [hg1, va_up_ne _ _ (by omega)]; exact hq_1a
    have m_5 : g1 (8 + 2 * slt fi u + 1) = .inl (k.2.1.1, 40, .inl (fun ii => nI (F (slt fi u) ii))) := by rw [hg1, va_up_ne _ _ (by omega)]; exact hq_1b
    have hS1 : CSh k ad g1 fi (u + 1) z F r := by rw [hg1]; exact hS0.six _ _
    refine lv_goto (tgt := 35) hx hb dX1_beginLine_19 (by decide) ?_
    refine lv_aload_n hx hb dX1_beginLine_35 rfl (lv_at hl 0 rfl) ?_
    refine lv_aload_n hx hb dX1_beginLine_36 rfl (lv_at hl 0 rfl) ?_
    refine m_get (ci := 1) (C := RX1) (T := TX1) (N' := 3) hx hb hts (by decide +kernel) hown hE hI 6 (by omega) m_2 rfl 2 (by decide) (hts (.fieldLink RX1 17 "TapePrinter$Sheet" "used" "I") (by decide +kernel)) rfl dX1_beginLine_37 ?_
    refine lv_iconst (v := nI 1) hx hb dX1_beginLine_40 (by decide) ?_
    refine m_isubN hx hb (by omega) dX1_beginLine_41 ?_
    refine m_top (show nI (u + 1 - 1) = nI u from rfl) ?_
    refine m_callVq (As := [.int (nI u)]) (rest := []) ⟨hx, hb, hml, hown, hts⟩ hE hI (c_X1_row_in k l ad N g1 _ fi (u + 1) z F r u (by omega) (by omega) (by omega) (by omega) hS1 (by omega)) (cwV 1 hts gX1_beginLine_X1_row rfl rfl rfl (by decide +kernel) ⟨Nat.le_of_ble_eq_true rfl, Nat.le_of_ble_eq_true rfl⟩) (i := 6) (by omega) m_2 rfl rfl hl.1 rfl (Nat.le_of_ble_eq_true rfl) dX1_beginLine_42 ⟨Nat.le_of_ble_eq_true rfl, Nat.le_of_ble_eq_true rfl⟩ (m_detq (fun H locs hI => ?_))
    refine m_rf rfl ?_
    refine lv_astore_n (lv' := [(1, .ref (ad (8 + 2 * slt fi u))), (0, .ref (ad 6))]) hx hb dX1_beginLine_45 rfl hl (by decide) rfl (fun ls hl => ?_)
    refine lv_aload_n hx hb dX1_beginLine_46 rfl (lv_at hl 0 rfl) ?_
    refine lv_ifnull hx hb dX1_beginLine_47 ?_
    refine lv_aload_n hx hb dX1_beginLine_50 rfl (lv_at hl 0 rfl) ?_
    refine m_callVv (As := []) (rest := []) ⟨hx, hb, hml, hown, hts⟩ hE hI (c_X0_clear k l ad N g1 _ (8 + 2 * slt fi u) 40 (z (slt fi u)) (fun ii => nI (F (slt fi u) ii))  (by omega) (by omega) (by omega) ⟨m_4, m_5⟩) (cwV 0 hts gX1_beginLine_X0_clear rfl rfl rfl (by decide +kernel) ⟨Nat.le_of_ble_eq_true rfl, Nat.le_of_ble_eq_true rfl⟩) (i := (8 + 2 * slt fi u)) (by omega) m_4 rfl rfl hl.1 rfl (Nat.le_of_ble_eq_true rfl) dX1_beginLine_51 ⟨Nat.le_of_ble_eq_true rfl, Nat.le_of_ble_eq_true rfl⟩ (m_detv (fun H locs hI => ?_))
    obtain ⟨g2, hg2⟩ : ∃ zz, zz = va_up g1 (8 + 2 * slt fi u) (.inr (0, [.ref (ad (8 + 2 * slt fi u + 1)), .int (nI 0)])) := ⟨_, rfl⟩
    replace hI : mI k ad N g2 (mA ad N s.heap.size) s H locs := by rw [hg2]; exact hI
    have m_6 : g2 6 = .inr (1, [.ref (ad 7), .int (nI fi), .int (nI (u + 1))]) := by rw [hg2, va_up_ne _ _ (by omega)]; exact m_2
    have m_7 : g2 7 = .inl (k.2.1.2.1, 20, .inr (.inr (.inr (.inr r)))) := by rw [hg2, va_up_ne _ _ (by omega)]; exact m_3
    have m_8 : g2 (8 + 2 * slt fi u) = .inr (0, [.ref (ad (8 + 2 * slt fi u + 1)), .int (nI 0)]) := by rw [hg2, va_up_self]
    have m_9 : g2 (8 + 2 * slt fi u + 1) = .inl (k.2.1.1, 40, .inl (fun ii => nI (F (slt fi u) ii))) := by rw [hg2, va_up_ne _ _ (by omega)]; exact m_5
    have hrw : CRow k ad g2 (8 + 2 * slt fi u) 40 0 (fun i => nI (F (slt fi u) i)) := ⟨m_8, m_9⟩
    have hS2 := hS1.put (by omega) hrw (fun i h1 h2 => by rw [hg2, va_up_ne _ _ h1])
    rw [va_up_id] at hS2
    exact m_vret hx hb hr hlocks hI (⟨hS2, fun i hi => by rw [hg2, va_up_ne _ _ (by omega), hg1, va_up_ne _ _ (by omega)]⟩) dX1_beginLine_54
set_option maxHeartbeats 4000000 in
set_option maxRecDepth 100000 in
theorem c_X1_beginLine_hi (k : mC) (l : Launch) (ad : Nat → Nat) (N : Nat) (g : Nat → va_E) (sz : Nat) (fi u : Nat) (z : Nat → Nat) (F : Nat → Nat → Nat) (r : Nat → Option Nat)  (hN : 48 ≤ N) (hfi : fi < 20) (hu : u ≤ 20) (hu0 : 0 < u) (hS0 : CSh k ad g fi u z F r) (hhi : u = 20) : mCv k l yX1_beginLine wsX1_beginLine { frames := 1, cells := 0, slots := 0, locals := 22 } ad N g sz [.ref (ad 6)] (fun g1 => CSh k ad g1 (slt fi 1) u (va_up z fi 0) F r ∧ ∀ i, (i < 6 ∨ 48 ≤ i) → g1 i = g i) := by
  refine mOf (Qc := fun z9 => va_Qv (fun g1 => CSh k ad g1 (slt fi 1) u (va_up z fi 0) F r ∧ ∀ i, (i < 6 ∨ 48 ≤ i) → g1 i = g i) (mB k ad N) (mA ad N z9)) (cc := cX1_beginLine) (maxL := 2) (ret := none) (by decide) rfl (Nat.le_of_ble_eq_true rfl) ?_
  intro p e s m below meth c hx hb hr hts hown hlocks hml hin hE hI ls hl
  have hl : lv_has ls 2 [(0, .ref (ad 6))] := hl
  obtain ⟨h6, h7, hr0, hrow⟩ := id hS0
  have hq_1l : fi < 20 := hfi
  have hq_1 := hrow (fi) hq_1l
  have hq_1a := hq_1.1.1
  have hq_1b := hq_1.1.2
  have hq_1c := hq_1.2
  refine lv_aload_n hx hb dX1_beginLine_0 rfl (lv_at hl 0 rfl) ?_
  refine m_get (ci := 1) (C := RX1) (T := TX1) (N' := 3) hx hb hts (by decide +kernel) hown hE hI 6 (by omega) h6 rfl 2 (by decide) (hts (.fieldLink RX1 17 "TapePrinter$Sheet" "used" "I") (by decide +kernel)) rfl dX1_beginLine_1 ?_
  refine lv_bipush (v := nI 20) hx hb dX1_beginLine_4 (by decide) ?_
  refine m_cgeN (tgt := 22) hx hb (by omega) (by omega) dX1_beginLine_6 (by decide) (fun c_6 => ?_) (fun c_6 => ?_)
  · refine lv_aload_n hx hb dX1_beginLine_22 rfl (lv_at hl 0 rfl) ?_
    refine lv_aload_n hx hb dX1_beginLine_23 rfl (lv_at hl 0 rfl) ?_
    refine m_get (ci := 1) (C := RX1) (T := TX1) (N' := 3) hx hb hts (by decide +kernel) hown hE hI 6 (by omega) h6 rfl 1 (by decide) (hts (.fieldLink RX1 24 "TapePrinter$Sheet" "first" "I") (by decide +kernel)) rfl dX1_beginLine_24 ?_
    refine lv_iconst (v := nI 1) hx hb dX1_beginLine_27 (by decide) ?_
    refine m_iaddN hx hb dX1_beginLine_28 ?_
    refine lv_bipush (v := nI 20) hx hb dX1_beginLine_29 (by decide) ?_
    refine m_iremN hx hb (by omega) (by omega) (by omega) dX1_beginLine_31 ?_
    refine m_top (show nI ((fi + 1) % 20) = nI (slt fi 1) from rfl) ?_
    refine m_put (ci := 1) (C := RX1) (T := TX1) (N' := 3) (ty := .int) hx hb hts (by decide +kernel) tyX1 tyX1_ok nmX1 hown hE hI 6 (by omega) h6 rfl 1 (by decide) (hts (.fieldLink RX1 24 "TapePrinter$Sheet" "first" "I") (by decide +kernel)) rfl (by decide +kernel) rfl rfl (Nat.le_of_ble_eq_true rfl) dX1_beginLine_32 (fun H locs hI => ?_)
    obtain ⟨g1, hg1⟩ : ∃ zz, zz = va_up g 6 (.inr (1, [.ref (ad 7), .int (nI (slt fi 1)), .int (nI u)])) := ⟨_, rfl⟩
    replace hI : mI k ad N g1 (mA ad N s.heap.size) s H locs := by rw [hg1]; exact hI
    have m_2 : g1 6 = .inr (1, [.ref (ad 7), .int (nI (slt fi 1)), .int (nI u)]) := by rw [hg1, va_up_self]
    have m_3 : g1 7 = .inl (k.2.1.2.1, 20, .inr (.inr (.inr (.inr r)))) := by rw [hg1, va_up_ne _ _ (by omega)]; exact h7
    have m_4 : g1 (8 + 2 * fi) = .inr (0, [.ref (ad (8 + 2 * fi + 1)), .int (nI (z fi))]) := by rw [hg1, va_up_ne _ _ (by omega)]; exact hq_1a
    have m_5 : g1 (8 + 2 * fi + 1) = .inl (k.2.1.1, 40, .inl (fun ii => nI (F fi ii))) := by rw [hg1, va_up_ne _ _ (by omega)]; exact hq_1b
    have hS1 : CSh k ad g1 (slt fi 1) u z F r := by rw [hg1]; exact hS0.six _ _
    have hsl := slt_lt fi 1
    refine lv_aload_n hx hb dX1_beginLine_35 rfl (lv_at hl 0 rfl) ?_
    refine lv_aload_n hx hb dX1_beginLine_36 rfl (lv_at hl 0 rfl) ?_
    refine m_get (ci := 1) (C := RX1) (T := TX1) (N' := 3) hx hb hts (by decide +kernel) hown hE hI 6 (by omega) m_2 rfl 2 (by decide) (hts (.fieldLink RX1 17 "TapePrinter$Sheet" "used" "I") (by decide +kernel)) rfl dX1_beginLine_37 ?_
    refine lv_iconst (v := nI 1) hx hb dX1_beginLine_40 (by decide) ?_
    refine m_isubN hx hb (by omega) dX1_beginLine_41 ?_
    refine m_top (show nI (u - 1) = nI 19 from by rw [hhi]) ?_
    refine m_callVq (As := [.int (nI 19)]) (rest := []) ⟨hx, hb, hml, hown, hts⟩ hE hI (c_X1_row_in k l ad N g1 _ (slt fi 1) u z F r 19 (by omega) (by omega) (by omega) (by omega) hS1 (by omega)) (cwV 1 hts gX1_beginLine_X1_row rfl rfl rfl (by decide +kernel) ⟨Nat.le_of_ble_eq_true rfl, Nat.le_of_ble_eq_true rfl⟩) (i := 6) (by omega) m_2 rfl rfl hl.1 rfl (Nat.le_of_ble_eq_true rfl) dX1_beginLine_42 ⟨Nat.le_of_ble_eq_true rfl, Nat.le_of_ble_eq_true rfl⟩ (m_detq (fun H locs hI => ?_))
    refine m_rf rfl ?_
    rw [slt_back hfi]
    refine lv_astore_n (lv' := [(1, .ref (ad (8 + 2 * fi))), (0, .ref (ad 6))]) hx hb dX1_beginLine_45 rfl hl (by decide) rfl (fun ls hl => ?_)
    refine lv_aload_n hx hb dX1_beginLine_46 rfl (lv_at hl 0 rfl) ?_
    refine lv_ifnull hx hb dX1_beginLine_47 ?_
    refine lv_aload_n hx hb dX1_beginLine_50 rfl (lv_at hl 0 rfl) ?_
    refine m_callVv (As := []) (rest := []) ⟨hx, hb, hml, hown, hts⟩ hE hI (c_X0_clear k l ad N g1 _ (8 + 2 * fi) 40 (z fi) (fun ii => nI (F fi ii))  (by omega) (by omega) (by omega) ⟨m_4, m_5⟩) (cwV 0 hts gX1_beginLine_X0_clear rfl rfl rfl (by decide +kernel) ⟨Nat.le_of_ble_eq_true rfl, Nat.le_of_ble_eq_true rfl⟩) (i := (8 + 2 * fi)) (by omega) m_4 rfl rfl hl.1 rfl (Nat.le_of_ble_eq_true rfl) dX1_beginLine_51 ⟨Nat.le_of_ble_eq_true rfl, Nat.le_of_ble_eq_true rfl⟩ (m_detv (fun H locs hI => ?_))
    obtain ⟨g2, hg2⟩ : ∃ zz, zz = va_up g1 (8 + 2 * fi) (.inr (0, [.ref (ad (8 + 2 * fi + 1)), .int (nI 0)])) := ⟨_, rfl⟩
    replace hI : mI k ad N g2 (mA ad N s.heap.size) s H locs := by rw [hg2]; exact hI
    have m_6 : g2 6 = .inr (1, [.ref (ad 7), .int (nI (slt fi 1)), .int (nI u)]) := by rw [hg2, va_up_ne _ _ (by omega)]; exact m_2
    have m_7 : g2 7 = .inl (k.2.1.2.1, 20, .inr (.inr (.inr (.inr r)))) := by rw [hg2, va_up_ne _ _ (by omega)]; exact m_3
    have m_8 : g2 (8 + 2 * fi) = .inr (0, [.ref (ad (8 + 2 * fi + 1)), .int (nI 0)]) := by rw [hg2, va_up_self]
    have m_9 : g2 (8 + 2 * fi + 1) = .inl (k.2.1.1, 40, .inl (fun ii => nI (F fi ii))) := by rw [hg2, va_up_ne _ _ (by omega)]; exact m_5
    have hrw : CRow k ad g2 (8 + 2 * fi) 40 0 (fun i => nI (F fi i)) := ⟨m_8, m_9⟩
    have hS2 := hS1.put (by omega) hrw (fun i h1 h2 => by rw [hg2, va_up_ne _ _ h1])
    rw [va_up_id] at hS2
    exact m_vret hx hb hr hlocks hI (⟨hS2, fun i hi => by rw [hg2, va_up_ne _ _ (by omega), hg1, va_up_ne _ _ (by omega)]⟩) dX1_beginLine_54
  · exact absurd c_6 (by omega)
set_option maxHeartbeats 4000000 in
set_option maxRecDepth 100000 in
theorem c_X1_characters (k : mC) (l : Launch) (ad : Nat → Nat) (N : Nat) (g : Nat → va_E) (sz : Nat) (fi u : Nat) (z : Nat → Nat) (F : Nat → Nat → Nat) (r : Nat → Option Nat)  (hN : 48 ≤ N) (hfi : fi < 20) (hu : u ≤ 20) (hu0 : 0 < u) (hS0 : CSh k ad g fi u z F r) : mCi k l yX1_characters wsX1_characters { frames := 1, cells := 0, slots := 0, locals := 22 } ad N g sz [.ref (ad 6)] (fun r1 g1 => r1 = nI (sumz z fi u) ∧ g1 = g) := by
  refine mOf (Qc := fun z9 => va_Qi (fun r1 g1 => r1 = nI (sumz z fi u) ∧ g1 = g) (mB k ad N) (mA ad N z9)) (cc := cX1_characters) (maxL := 4) (ret := (some .int)) (by decide) rfl (Nat.le_of_ble_eq_true rfl) ?_
  intro p e s m below meth c hx hb hr hts hown hlocks hml hin hE hI ls hl
  have hl : lv_has ls 4 [(0, .ref (ad 6))] := hl
  obtain ⟨h6, h7, hr0, hrow⟩ := id hS0
  refine lv_iconst (v := nI 0) hx hb dX1_characters_0 (by decide) ?_
  refine lv_istore_n (lv' := [(1, .int (nI 0)), (0, .ref (ad 6))]) hx hb dX1_characters_1 rfl hl (by decide) rfl (fun ls hl => ?_)
  refine lv_iconst (v := nI 0) hx hb dX1_characters_2 (by decide) ?_
  refine lv_istore_n (lv' := [(2, .int (nI 0)), (1, .int (nI 0)), (0, .ref (ad 6))]) hx hb dX1_characters_3 rfl hl (by decide) rfl (fun ls hl => ?_)
  refine m_loop (σ := Nat) (fun i => i ≤ u) (fun i => u - i) (fun i => g) (fun i => [(0, .ref (ad 6)), (1, .int (nI (sumz z fi i))), (2, .int (nI i))]) (nL := 4) 0 (Nat.zero_le _) hI (lv_sub hl [2, 1, 0] rfl) ?_
  rintro i hiu ih4 H locs ls hI hl
  have hI : mI k ad N g (mA ad N s.heap.size) s H locs := hI
  have hl : lv_has ls 4 [(0, .ref (ad 6)), (1, .int (nI (sumz z fi i))), (2, .int (nI i))] := hl
  have hsz := sumz_le (z := z) (fun j hj => (hrow j hj).2) fi i
  refine lv_iload_n hx hb dX1_characters_4 rfl (lv_at hl 2 rfl) ?_
  refine lv_aload_n hx hb dX1_characters_5 rfl (lv_at hl 0 rfl) ?_
  refine m_get (ci := 1) (C := RX1) (T := TX1) (N' := 3) hx hb hts (by decide +kernel) hown hE hI 6 (by omega) h6 rfl 2 (by decide) (hts (.fieldLink RX1 17 "TapePrinter$Sheet" "used" "I") (by decide +kernel)) rfl dX1_characters_6 ?_
  refine m_cgeN (tgt := 35) hx hb (by omega) (by omega) dX1_characters_9 (by decide) (fun c_9 => ?_) (fun c_9 => ?_)
  · refine lv_iload_n hx hb dX1_characters_35 rfl (lv_at hl 1 rfl) ?_
    exact m_iret hx hb hr hlocks hI (⟨by rw [show i = u by omega], rfl⟩) dX1_characters_36
  · have hq_1l : slt fi i < 20 := slt_lt _ _
    have hq_1 := hrow (slt fi i) hq_1l
    have hq_1a := hq_1.1.1
    have hq_1b := hq_1.1.2
    have hq_1c := hq_1.2
    refine lv_aload_n hx hb dX1_characters_12 rfl (lv_at hl 0 rfl) ?_
    refine lv_iload_n hx hb dX1_characters_13 rfl (lv_at hl 2 rfl) ?_
    refine m_callVq (As := [.int (nI i)]) (rest := []) ⟨hx, hb, hml, hown, hts⟩ hE hI (c_X1_row_in k l ad N g _ fi u z F r i (by omega) (by omega) (by omega) (by omega) hS0 (by omega)) (cwV 1 hts gX1_characters_X1_row rfl rfl rfl (by decide +kernel) ⟨Nat.le_of_ble_eq_true rfl, Nat.le_of_ble_eq_true rfl⟩) (i := 6) (by omega) h6 rfl rfl hl.1 rfl (Nat.le_of_ble_eq_true rfl) dX1_characters_14 ⟨Nat.le_of_ble_eq_true rfl, Nat.le_of_ble_eq_true rfl⟩ (m_detq (fun H locs hI => ?_))
    refine m_rf rfl ?_
    refine lv_astore_n (lv' := [(3, .ref (ad (8 + 2 * slt fi i))), (0, .ref (ad 6)), (1, .int (nI (sumz z fi i))), (2, .int (nI i))]) hx hb dX1_characters_17 rfl hl (by decide) rfl (fun ls hl => ?_)
    refine lv_aload_n hx hb dX1_characters_18 rfl (lv_at hl 0 rfl) ?_
    refine lv_ifnull hx hb dX1_characters_19 ?_
    refine lv_iload_n hx hb dX1_characters_22 rfl (lv_at hl 2 rfl) ?_
    refine lv_aload_n hx hb dX1_characters_23 rfl (lv_at hl 0 rfl) ?_
    refine m_callVi (As := []) (rest := [.int (nI (sumz z fi i))]) ⟨hx, hb, hml, hown, hts⟩ hE hI (c_X0_size k l ad N g _ (8 + 2 * slt fi i) 40 (z (slt fi i)) (fun ii => nI (F (slt fi i) ii))  (by omega) (by omega) (by omega) ⟨hq_1a, hq_1b⟩) (cwV 0 hts gX1_characters_X0_size rfl rfl rfl (by decide +kernel) ⟨Nat.le_of_ble_eq_true rfl, Nat.le_of_ble_eq_true rfl⟩) (i := (8 + 2 * slt fi i)) (by omega) hq_1a rfl rfl hl.1 rfl (Nat.le_of_ble_eq_true rfl) dX1_characters_24 ⟨Nat.le_of_ble_eq_true rfl, Nat.le_of_ble_eq_true rfl⟩ (m_deti (fun H locs hI => ?_))
    refine m_iaddN hx hb dX1_characters_27 ?_
    refine lv_istore_n (lv' := [(1, .int (nI ((sumz z fi i) + (z (slt fi i))))), (3, .ref (ad (8 + 2 * slt fi i))), (0, .ref (ad 6)), (2, .int (nI i))]) hx hb dX1_characters_28 rfl hl (by decide) rfl (fun ls hl => ?_)
    refine lv_iinc (v := nI (i + 1)) (lv' := [(2, .int (nI (i + 1))), (1, .int (nI ((sumz z fi i) + (z (slt fi i))))), (3, .ref (ad (8 + 2 * slt fi i))), (0, .ref (ad 6))]) hx hb dX1_characters_29 hl (k := 3) rfl (nI_add i 1) (by decide) rfl (fun ls hl => ?_)
    refine lv_goto (tgt := 4) hx hb dX1_characters_32 (by decide) ?_
    exact ih4 (i + 1) (show i + 1 ≤ u by omega) (show u - (i + 1) < u - i by omega) _ _ _ hI (lv_sub hl [3, 1, 0] rfl)
set_option maxHeartbeats 4000000 in
set_option maxRecDepth 100000 in
theorem c_X2_play (k : mC) (l : Launch) (ad : Nat → Nat) (N : Nat) (g : Nat → va_E) (sz : Nat) (play : Nat) (lat : Nat → Int32) (gar : Nat → Nat)  (hN : 6 ≤ N) (hW0 : CWi k ad g play lat gar) : mCi k l yX2_play wsX2_play { frames := 0, cells := 0, slots := 0, locals := 0 } ad N g sz [.ref (ad 1)] (fun r g1 => r = nI play ∧ g1 = g) := by
  refine mOf (Qc := fun z9 => va_Qi (fun r g1 => r = nI play ∧ g1 = g) (mB k ad N) (mA ad N z9)) (cc := cX2_play) (maxL := 1) (ret := (some .int)) (by decide) rfl (Nat.le_of_ble_eq_true rfl) ?_
  intro p e s m below meth c hx hb hr hts hown hlocks hml hin hE hI ls hl
  have hl : lv_has ls 1 [(0, .ref (ad 1))] := hl
  obtain ⟨h1, ⟨h2, h3⟩, ⟨h4, h5⟩⟩ := id hW0
  refine lv_aload_n hx hb dX2_play_0 rfl (lv_at hl 0 rfl) ?_
  refine m_get (ci := 2) (C := RX2) (T := TX2) (N' := 3) hx hb hts (by decide +kernel) hown hE hI 1 (by omega) h1 rfl 2 (by decide) (hts (.fieldLink RX2 27 "TapePrinter$Wire" "play" "I") (by decide +kernel)) rfl dX2_play_1 ?_
  exact m_iret hx hb hr hlocks hI (⟨rfl, rfl⟩) dX2_play_4
set_option maxHeartbeats 4000000 in
set_option maxRecDepth 100000 in
theorem c_X2_changePlay (k : mC) (l : Launch) (ad : Nat → Nat) (N : Nat) (g : Nat → va_E) (sz : Nat) (play : Nat) (lat : Nat → Int32) (gar : Nat → Nat) (v : Nat) (hN : 6 ≤ N) (hW0 : CWi k ad g play lat gar) : mCv k l yX2_changePlay wsX2_changePlay { frames := 0, cells := 0, slots := 0, locals := 0 } ad N g sz [.ref (ad 1), .int (nI v)] (fun g1 => g1 = va_up g 1 (.inr (2, [.ref (ad 2), .ref (ad 4), .int (nI v)]))) := by
  refine mOf (Qc := fun z9 => va_Qv (fun g1 => g1 = va_up g 1 (.inr (2, [.ref (ad 2), .ref (ad 4), .int (nI v)]))) (mB k ad N) (mA ad N z9)) (cc := cX2_changePlay) (maxL := 2) (ret := none) (by decide) rfl (Nat.le_of_ble_eq_true rfl) ?_
  intro p e s m below meth c hx hb hr hts hown hlocks hml hin hE hI ls hl
  have hl : lv_has ls 2 [(0, .ref (ad 1)), (1, .int (nI v))] := hl
  obtain ⟨h1, ⟨h2, h3⟩, ⟨h4, h5⟩⟩ := id hW0
  refine lv_aload_n hx hb dX2_changePlay_0 rfl (lv_at hl 0 rfl) ?_
  refine lv_iload_n hx hb dX2_changePlay_1 rfl (lv_at hl 1 rfl) ?_
  refine m_put (ci := 2) (C := RX2) (T := TX2) (N' := 3) (ty := .int) hx hb hts (by decide +kernel) tyX2 tyX2_ok nmX2 hown hE hI 1 (by omega) h1 rfl 2 (by decide) (hts (.fieldLink RX2 27 "TapePrinter$Wire" "play" "I") (by decide +kernel)) rfl (by decide +kernel) rfl rfl (Nat.le_of_ble_eq_true rfl) dX2_changePlay_2 (fun H locs hI => ?_)
  obtain ⟨g1, hg1⟩ : ∃ zz, zz = va_up g 1 (.inr (2, [.ref (ad 2), .ref (ad 4), .int (nI v)])) := ⟨_, rfl⟩
  replace hI : mI k ad N g1 (mA ad N s.heap.size) s H locs := by rw [hg1]; exact hI
  have m_1 : g1 1 = .inr (2, [.ref (ad 2), .ref (ad 4), .int (nI v)]) := by rw [hg1, va_up_self]
  have m_2 : g1 2 = .inr (0, [.ref (ad 3), .int (nI 16)]) := by rw [hg1, va_up_ne _ _ (by omega)]; exact h2
  have m_3 : g1 3 = .inl (k.2.1.1, 16, .inl lat) := by rw [hg1, va_up_ne _ _ (by omega)]; exact h3
  have m_4 : g1 4 = .inr (0, [.ref (ad 5), .int (nI 16)]) := by rw [hg1, va_up_ne _ _ (by omega)]; exact h4
  have m_5 : g1 5 = .inl (k.2.1.1, 16, .inl (fun j => nI (gar j))) := by rw [hg1, va_up_ne _ _ (by omega)]; exact h5
  exact m_vret hx hb hr hlocks hI (hg1) dX2_changePlay_5
set_option maxHeartbeats 4000000 in
set_option maxRecDepth 100000 in
theorem c_X2_lateAt (k : mC) (l : Launch) (ad : Nat → Nat) (N : Nat) (g : Nat → va_E) (sz : Nat) (play : Nat) (lat : Nat → Int32) (gar : Nat → Nat) (j : Nat) (hN : 6 ≤ N) (hW0 : CWi k ad g play lat gar) (hj : j < 16) : mCi k l yX2_lateAt wsX2_lateAt { frames := 2, cells := 0, slots := 0, locals := 42 } ad N g sz [.ref (ad 1), .int (nI j)] (fun r g1 => r = lat j ∧ g1 = g) := by
  refine mOf (Qc := fun z9 => va_Qi (fun r g1 => r = lat j ∧ g1 = g) (mB k ad N) (mA ad N z9)) (cc := cX2_lateAt) (maxL := 2) (ret := (some .int)) (by decide) rfl (Nat.le_of_ble_eq_true rfl) ?_
  intro p e s m below meth c hx hb hr hts hown hlocks hml hin hE hI ls hl
  have hl : lv_has ls 2 [(0, .ref (ad 1)), (1, .int (nI j))] := hl
  obtain ⟨h1, ⟨h2, h3⟩, ⟨h4, h5⟩⟩ := id hW0
  refine lv_aload_n hx hb dX2_lateAt_0 rfl (lv_at hl 0 rfl) ?_
  refine m_get (ci := 2) (C := RX2) (T := TX2) (N' := 3) hx hb hts (by decide +kernel) hown hE hI 1 (by omega) h1 rfl 0 (by decide) (hts (.fieldLink RX2 14 "TapePrinter$Wire" "late" "LTapePrinter$Row;") (by decide +kernel)) rfl dX2_lateAt_1 ?_
  refine lv_iload_n hx hb dX2_lateAt_4 rfl (lv_at hl 1 rfl) ?_
  refine m_callVi (As := [.int (nI j)]) (rest := []) ⟨hx, hb, hml, hown, hts⟩ hE hI (c_X0_at k l ad N g _ 2 16 16 lat j (by omega) (by omega) (by omega) ⟨h2, h3⟩ (by omega)) (cwV 1 hts gX2_lateAt_X0_at rfl rfl rfl (by decide +kernel) ⟨Nat.le_of_ble_eq_true rfl, Nat.le_of_ble_eq_true rfl⟩) (i := 2) (by omega) h2 rfl rfl hl.1 rfl (Nat.le_of_ble_eq_true rfl) dX2_lateAt_5 ⟨Nat.le_of_ble_eq_true rfl, Nat.le_of_ble_eq_true rfl⟩ (m_deti (fun H locs hI => ?_))
  exact m_iret hx hb hr hlocks hI (⟨rfl, rfl⟩) dX2_lateAt_8
set_option maxHeartbeats 4000000 in
set_option maxRecDepth 100000 in
theorem c_X2_change (k : mC) (l : Launch) (ad : Nat → Nat) (N : Nat) (g : Nat → va_E) (sz : Nat) (play : Nat) (lat : Nat → Int32) (gar : Nat → Nat) (j : Nat) (v : Int32) (q : Nat) (hN : 6 ≤ N) (hW0 : CWi k ad g play lat gar) (hj : j < 16) : mCv k l yX2_change wsX2_change { frames := 2, cells := 0, slots := 0, locals := 43 } ad N g sz [.ref (ad 1), .int (nI j), .int v, .int (nI q)] (fun g1 => g1 = va_up (va_up g 3 (.inl (k.2.1.1, 16, .inl (upd lat j v)))) 5 (.inl (k.2.1.1, 16, .inl (upd (fun j => nI (gar j)) j (nI q))))) := by
  refine mOf (Qc := fun z9 => va_Qv (fun g1 => g1 = va_up (va_up g 3 (.inl (k.2.1.1, 16, .inl (upd lat j v)))) 5 (.inl (k.2.1.1, 16, .inl (upd (fun j => nI (gar j)) j (nI q))))) (mB k ad N) (mA ad N z9)) (cc := cX2_change) (maxL := 4) (ret := none) (by decide) rfl (Nat.le_of_ble_eq_true rfl) ?_
  intro p e s m below meth c hx hb hr hts hown hlocks hml hin hE hI ls hl
  have hl : lv_has ls 4 [(0, .ref (ad 1)), (1, .int (nI j)), (2, .int v), (3, .int (nI q))] := hl
  obtain ⟨h1, ⟨h2, h3⟩, ⟨h4, h5⟩⟩ := id hW0
  refine lv_aload_n hx hb dX2_change_0 rfl (lv_at hl 0 rfl) ?_
  refine m_get (ci := 2) (C := RX2) (T := TX2) (N' := 3) hx hb hts (by decide +kernel) hown hE hI 1 (by omega) h1 rfl 0 (by decide) (hts (.fieldLink RX2 14 "TapePrinter$Wire" "late" "LTapePrinter$Row;") (by decide +kernel)) rfl dX2_change_1 ?_
  refine lv_iload_n hx hb dX2_change_4 rfl (lv_at hl 1 rfl) ?_
  refine lv_iload_n hx hb dX2_change_5 rfl (lv_at hl 2 rfl) ?_
  refine m_callVv (As := [.int (nI j), .int v]) (rest := []) ⟨hx, hb, hml, hown, hts⟩ hE hI (c_X0_change k l ad N g _ 2 16 16 lat j v (by omega) (by omega) (by omega) ⟨h2, h3⟩ (by omega)) (cwV 2 hts gX2_change_X0_change rfl rfl rfl (by decide +kernel) ⟨Nat.le_of_ble_eq_true rfl, Nat.le_of_ble_eq_true rfl⟩) (i := 2) (by omega) h2 rfl rfl hl.1 rfl (Nat.le_of_ble_eq_true rfl) dX2_change_6 ⟨Nat.le_of_ble_eq_true rfl, Nat.le_of_ble_eq_true rfl⟩ (m_detv (fun H locs hI => ?_))
  obtain ⟨g1, hg1⟩ : ∃ zz, zz = va_up g 3 (.inl (k.2.1.1, 16, .inl (upd lat j v))) := ⟨_, rfl⟩
  replace hI : mI k ad N g1 (mA ad N s.heap.size) s H locs := by rw [hg1]; exact hI
  have m_1 : g1 1 = .inr (2, [.ref (ad 2), .ref (ad 4), .int (nI play)]) := by rw [hg1, va_up_ne _ _ (by omega)]; exact h1
  have m_2 : g1 2 = .inr (0, [.ref (ad 3), .int (nI 16)]) := by rw [hg1, va_up_ne _ _ (by omega)]; exact h2
  have m_3 : g1 3 = .inl (k.2.1.1, 16, .inl (upd lat j v)) := by rw [hg1, va_up_self]
  have m_4 : g1 4 = .inr (0, [.ref (ad 5), .int (nI 16)]) := by rw [hg1, va_up_ne _ _ (by omega)]; exact h4
  have m_5 : g1 5 = .inl (k.2.1.1, 16, .inl (fun j => nI (gar j))) := by rw [hg1, va_up_ne _ _ (by omega)]; exact h5
  refine lv_aload_n hx hb dX2_change_9 rfl (lv_at hl 0 rfl) ?_
  refine m_get (ci := 2) (C := RX2) (T := TX2) (N' := 3) hx hb hts (by decide +kernel) hown hE hI 1 (by omega) m_1 rfl 1 (by decide) (hts (.fieldLink RX2 20 "TapePrinter$Wire" "garbled" "LTapePrinter$Row;") (by decide +kernel)) rfl dX2_change_10 ?_
  refine lv_iload_n hx hb dX2_change_13 rfl (lv_at hl 1 rfl) ?_
  refine lv_iload_n hx hb dX2_change_14 rfl (lv_at hl 3 rfl) ?_
  refine m_callVv (As := [.int (nI j), .int (nI q)]) (rest := []) ⟨hx, hb, hml, hown, hts⟩ hE hI (c_X0_change k l ad N g1 _ 4 16 16 (fun j => nI (gar j)) j (nI q) (by omega) (by omega) (by omega) ⟨m_4, m_5⟩ (by omega)) (cwV 2 hts gX2_change_X0_change rfl rfl rfl (by decide +kernel) ⟨Nat.le_of_ble_eq_true rfl, Nat.le_of_ble_eq_true rfl⟩) (i := 4) (by omega) m_4 rfl rfl hl.1 rfl (Nat.le_of_ble_eq_true rfl) dX2_change_15 ⟨Nat.le_of_ble_eq_true rfl, Nat.le_of_ble_eq_true rfl⟩ (m_detv (fun H locs hI => ?_))
  obtain ⟨g2, hg2⟩ : ∃ zz, zz = va_up g1 5 (.inl (k.2.1.1, 16, .inl (upd (fun j => nI (gar j)) j (nI q)))) := ⟨_, rfl⟩
  replace hI : mI k ad N g2 (mA ad N s.heap.size) s H locs := by rw [hg2]; exact hI
  have m_6 : g2 1 = .inr (2, [.ref (ad 2), .ref (ad 4), .int (nI play)]) := by rw [hg2, va_up_ne _ _ (by omega)]; exact m_1
  have m_7 : g2 2 = .inr (0, [.ref (ad 3), .int (nI 16)]) := by rw [hg2, va_up_ne _ _ (by omega)]; exact m_2
  have m_8 : g2 3 = .inl (k.2.1.1, 16, .inl (upd lat j v)) := by rw [hg2, va_up_ne _ _ (by omega)]; exact m_3
  have m_9 : g2 4 = .inr (0, [.ref (ad 5), .int (nI 16)]) := by rw [hg2, va_up_ne _ _ (by omega)]; exact m_4
  have m_10 : g2 5 = .inl (k.2.1.1, 16, .inl (upd (fun j => nI (gar j)) j (nI q))) := by rw [hg2, va_up_self]
  exact m_vret hx hb hr hlocks hI (by rw [hg2, hg1]) dX2_change_18
set_option maxHeartbeats 4000000 in
set_option maxRecDepth 100000 in
theorem c_X2_readAs (k : mC) (l : Launch) (ad : Nat → Nat) (N : Nat) (g : Nat → va_E) (sz : Nat) (play : Nat) (lat : Nat → Int32) (gar : Nat → Nat) (co a : Nat) (hN : 6 ≤ N) (hW0 : CWi k ad g play lat gar) (hc : co < 32) (ha : a < 2147483648) (hgar : ∀ j, j < 16 → gar j < 32) : mCi k l yX2_readAs wsX2_readAs { frames := 2, cells := 0, slots := 0, locals := 42 } ad N g sz [.ref (ad 1), .int (nI co), .int (nI a)] (fun r g1 => r = nI (rdF play (lat (a % 16)) (gar (a % 16)) co) ∧ g1 = g) := by
  refine mOf (Qc := fun z9 => va_Qi (fun r g1 => r = nI (rdF play (lat (a % 16)) (gar (a % 16)) co) ∧ g1 = g) (mB k ad N) (mA ad N z9)) (cc := cX2_readAs) (maxL := 6) (ret := (some .int)) (by decide) rfl (Nat.le_of_ble_eq_true rfl) ?_
  intro p e s m below meth c hx hb hr hts hown hlocks hml hin hE hI ls hl
  have hl : lv_has ls 6 [(0, .ref (ad 1)), (1, .int (nI co)), (2, .int (nI a))] := hl
  obtain ⟨h1, ⟨h2, h3⟩, ⟨h4, h5⟩⟩ := id hW0
  refine lv_iload_n hx hb dX2_readAs_0 rfl (lv_at hl 2 rfl) ?_
  refine lv_bipush (v := nI 16) hx hb dX2_readAs_1 (by decide) ?_
  refine m_iremN hx hb (by omega) (by omega) (by omega) dX2_readAs_3 ?_
  have ha16 : a % 16 < 16 := Nat.mod_lt _ (by omega)
  refine lv_istore_n (lv' := [(3, .int (nI (a % 16))), (0, .ref (ad 1)), (1, .int (nI co)), (2, .int (nI a))]) hx hb dX2_readAs_4 rfl hl (by decide) rfl (fun ls hl => ?_)
  refine lv_iload_n hx hb dX2_readAs_5 rfl (lv_at hl 2 rfl) ?_
  refine lv_aload_n hx hb dX2_readAs_6 rfl (lv_at hl 1 rfl) ?_
  refine m_get (ci := 2) (C := RX2) (T := TX2) (N' := 3) hx hb hts (by decide +kernel) hown hE hI 1 (by omega) h1 rfl 1 (by decide) (hts (.fieldLink RX2 20 "TapePrinter$Wire" "garbled" "LTapePrinter$Row;") (by decide +kernel)) rfl dX2_readAs_7 ?_
  refine lv_iload_n hx hb dX2_readAs_10 rfl (lv_at hl 0 rfl) ?_
  refine m_callVi (As := [.int (nI (a % 16))]) (rest := [.int (nI co)]) ⟨hx, hb, hml, hown, hts⟩ hE hI (c_X0_at k l ad N g _ 4 16 16 (fun j => nI (gar j)) (a % 16) (by omega) (by omega) (by omega) ⟨h4, h5⟩ (by omega)) (cwV 1 hts gX2_readAs_X0_at rfl rfl rfl (by decide +kernel) ⟨Nat.le_of_ble_eq_true rfl, Nat.le_of_ble_eq_true rfl⟩) (i := 4) (by omega) h4 rfl rfl hl.1 rfl (Nat.le_of_ble_eq_true rfl) dX2_readAs_11 ⟨Nat.le_of_ble_eq_true rfl, Nat.le_of_ble_eq_true rfl⟩ (m_deti (fun H locs hI => ?_))
  refine m_top (show (fun j => nI (gar j)) (a % 16) = nI (gar (a % 16)) from rfl) ?_
  refine lv_ixor hx hb dX2_readAs_14 ?_
  have hq := hgar (a % 16) ha16
  have hxr := xor32 co hc _ hq
  refine m_top hxr.1 ?_
  refine lv_istore (lv' := [(4, .int (nI (co ^^^ gar (a % 16)))), (3, .int (nI (a % 16))), (0, .ref (ad 1)), (1, .int (nI co)), (2, .int (nI a))]) hx hb dX2_readAs_15 hl (by decide) rfl (fun ls hl => ?_)
  refine lv_aload_n hx hb dX2_readAs_17 rfl (lv_at hl 2 rfl) ?_
  refine m_get (ci := 2) (C := RX2) (T := TX2) (N' := 3) hx hb hts (by decide +kernel) hown hE hI 1 (by omega) h1 rfl 0 (by decide) (hts (.fieldLink RX2 14 "TapePrinter$Wire" "late" "LTapePrinter$Row;") (by decide +kernel)) rfl dX2_readAs_18 ?_
  refine lv_iload_n hx hb dX2_readAs_21 rfl (lv_at hl 1 rfl) ?_
  refine m_callVi (As := [.int (nI (a % 16))]) (rest := []) ⟨hx, hb, hml, hown, hts⟩ hE hI (c_X0_at k l ad N g _ 2 16 16 lat (a % 16) (by omega) (by omega) (by omega) ⟨h2, h3⟩ (by omega)) (cwV 1 hts gX2_readAs_X0_at rfl rfl rfl (by decide +kernel) ⟨Nat.le_of_ble_eq_true rfl, Nat.le_of_ble_eq_true rfl⟩) (i := 2) (by omega) h2 rfl rfl hl.1 rfl (Nat.le_of_ble_eq_true rfl) dX2_readAs_22 ⟨Nat.le_of_ble_eq_true rfl, Nat.le_of_ble_eq_true rfl⟩ (m_deti (fun H locs hI => ?_))
  refine lv_istore (lv' := [(5, .int (lat (a % 16))), (4, .int (nI (co ^^^ gar (a % 16)))), (3, .int (nI (a % 16))), (0, .ref (ad 1)), (1, .int (nI co)), (2, .int (nI a))]) hx hb dX2_readAs_25 hl (by decide) rfl (fun ls hl => ?_)
  refine lv_iload hx hb dX2_readAs_27 (lv_at hl 0 rfl) ?_
  refine lv_aload_n hx hb dX2_readAs_29 rfl (lv_at hl 3 rfl) ?_
  refine m_get (ci := 2) (C := RX2) (T := TX2) (N' := 3) hx hb hts (by decide +kernel) hown hE hI 1 (by omega) h1 rfl 2 (by decide) (hts (.fieldLink RX2 27 "TapePrinter$Wire" "play" "I") (by decide +kernel)) rfl dX2_readAs_30 ?_
  refine lv_icmp_le (tgt := 41) hx hb dX2_readAs_33 (by decide) (fun c_33 => ?_) (fun c_33 => ?_)
  · refine lv_iload hx hb dX2_readAs_41 (lv_at hl 0 rfl) ?_
    refine lv_ineg hx hb dX2_readAs_43 ?_
    refine lv_aload_n hx hb dX2_readAs_44 rfl (lv_at hl 3 rfl) ?_
    refine m_get (ci := 2) (C := RX2) (T := TX2) (N' := 3) hx hb hts (by decide +kernel) hown hE hI 1 (by omega) h1 rfl 2 (by decide) (hts (.fieldLink RX2 27 "TapePrinter$Wire" "play" "I") (by decide +kernel)) rfl dX2_readAs_45 ?_
    refine lv_icmp_le (tgt := 61) hx hb dX2_readAs_48 (by decide) (fun c_48 => ?_) (fun c_48 => ?_)
    · refine lv_iload hx hb dX2_readAs_61 (lv_at hl 1 rfl) ?_
      have k1 : ¬ nI play < lat (a % 16) := by rw [Int32.lt_iff_toInt_lt]; rw [Int32.le_iff_toInt_le] at c_33; omega
      have k2 : ¬ nI play < -lat (a % 16) := by rw [Int32.lt_iff_toInt_lt]; rw [Int32.le_iff_toInt_le] at c_48; omega
      exact m_iret hx hb hr hlocks hI (⟨by unfold rdF; rw [if_neg k1, if_neg k2], rfl⟩) dX2_readAs_63
    · refine lv_iload hx hb dX2_readAs_51 (lv_at hl 1 rfl) ?_
      refine lv_iconst (v := nI 1) hx hb dX2_readAs_53 (by decide) ?_
      refine lv_ishl hx hb dX2_readAs_54 ?_
      refine lv_iconst (v := nI 1) hx hb dX2_readAs_55 (by decide) ?_
      refine lv_ior hx hb dX2_readAs_56 ?_
      refine lv_bipush (v := nI 31) hx hb dX2_readAs_57 (by decide) ?_
      refine lv_iand hx hb dX2_readAs_59 ?_
      refine m_top (shl32 _ hxr.2) ?_
      have k1 : ¬ nI play < lat (a % 16) := by rw [Int32.lt_iff_toInt_lt]; rw [Int32.le_iff_toInt_le] at c_33; omega
      have k2 : nI play < -lat (a % 16) := by rw [Int32.lt_iff_toInt_lt]; rw [Int32.le_iff_toInt_le] at c_48; omega
      exact m_iret hx hb hr hlocks hI (⟨by unfold rdF; rw [if_neg k1, if_pos k2], rfl⟩) dX2_readAs_60
  · refine lv_iload hx hb dX2_readAs_36 (lv_at hl 1 rfl) ?_
    refine lv_iconst (v := nI 1) hx hb dX2_readAs_38 (by decide) ?_
    refine lv_ishr hx hb dX2_readAs_39 ?_
    refine m_top (shr32 _ hxr.2) ?_
    have k1 : nI play < lat (a % 16) := by rw [Int32.lt_iff_toInt_lt]; rw [Int32.le_iff_toInt_le] at c_33; omega
    exact m_iret hx hb hr hlocks hI (⟨by unfold rdF; rw [if_pos k1], rfl⟩) dX2_readAs_40
end
section
/-- a code that prints by the shift -/
def dep (c : Nat) : Bool := decide (chL c ≠ 0) && decide (chL c ≤ 26)
/-- the character of a code, by the shift -/
def chF (c : Nat) (b : Bool) : Nat := if b && dep c then chL c + 26 else chL c
theorem chL_le : ∀ c, c < 32 → chL c ≤ 54 := by decide +kernel
theorem chF_le : ∀ c, c < 32 → ∀ b, chF c b ≤ 54 := by decide +kernel
theorem cd_lt : ∀ x, x < 55 → cd x < 32 := by decide +kernel
/-- a character -/
def inC (x : Int32) : Bool := decide (1 ≤ x) && decide (x ≤ 54)
theorem inC_ex {x : Int32} (h : inC x = true) : ∃ j : Nat, 1 ≤ j ∧ j ≤ 54 ∧ x = nI j := by
  simp only [inC, Bool.and_eq_true, decide_eq_true_eq] at h
  have h1 := h.1; have h2 := h.2
  rw [Int32.le_iff_toInt_le] at h1 h2
  have e1 : (1 : Int32).toInt = 1 := by decide
  have e2 : (54 : Int32).toInt = 54 := by decide
  obtain ⟨j, hj, rfl⟩ := nI_of (x := x) (fun q => by rw [Int32.lt_iff_toInt_lt] at q; have e0 : (0 : Int32).toInt = 0 := by decide
                                                     omega)
  rw [nI_toInt hj] at h1 h2
  exact ⟨j, by omega, by omega, rfl⟩
def isSh (c : Nat) : Bool := decide (c = 31) || decide (c = 27)
/-- a code that shifts to letters -/
def stl (uns : Bool) (c : Nat) : Bool := decide (c = 31) || (decide (c = 2) || (uns && decide (c = 4)))
/-- the shift behind a code -/
def fb (uns : Bool) (c : Nat) (b : Bool) : Bool := decide (c = 27) || (b && !stl uns c)
/-- the shift of the tape ahead of a place -/
def fa (uns : Bool) (T : Nat → Nat) : Nat → Bool
  | 0 => false
  | n + 1 => fb uns (T n) (fa uns T n)
/-- whether a letter or figure comes among m codes from a place on, ahead of the next that sets the shift -/
def sv (uns : Bool) (T : Nat → Nat) : Nat → Nat → Bool
  | 0, _ => false
  | m + 1, p => if dep (T p) then true else if decide (T p = 27) || stl uns (T p) then false else sv uns T m (p + 1)
/-- whether the shift at a place does nothing -/
def idB (uns : Bool) (T : Nat → Nat) (n p : Nat) : Bool := isSh (T p) && (decide (fb uns (T p) (fa uns T p) = fa uns T p) || !sv uns T (n - (p + 1)) (p + 1))
def idl (uns : Bool) (T : Nat → Nat) (n : Nat) : Nat → Nat
  | 0 => 0
  | p + 1 => if idB uns T n p then idl uns T n p + 1 else idl uns T n p
theorem idl_le (uns : Bool) (T : Nat → Nat) (n p : Nat) : idl uns T n p ≤ p := by
  induction p with
  | zero => exact Nat.le_refl _
  | succ p ih => simp only [idl]; split <;> omega
/-- the page's ways: a new line, no room, a character -/
def pOb {P : Type} (nl : P → P) (full : P → Bool) (add : P → Nat → P) (ch : Nat) (p : P) : P := if ch = 54 then nl p else if ch = 0 then p else if full p then p else add p ch
def lOb {P : Type} (full : P → Bool) (ch : Nat) (p : P) (lost : Int32) : Int32 := if ch = 54 then lost else if ch = 0 then lost else if full p then lost + 1 else lost
abbrev YT (P : Type) : Type := Nat × Int32 × Int32 × Int32 × Bool × P
/-- a code is printed: what came, misread, lost, bells, the shift, the page -/
def yOb {P : Type} (nl : P → P) (full : P → Bool) (add : P → Nat → P) (uns : Bool) (c : Nat) (y : YT P) : YT P :=
  (y.1, y.2.1, lOb full (chF c y.2.2.2.2.1) y.2.2.2.2.2 y.2.2.1, if c = 8 then y.2.2.2.1 + 1 else y.2.2.2.1, fb uns c y.2.2.2.2.1, pOb nl full add (chF c y.2.2.2.2.1) y.2.2.2.2.2)
def rdY (play : Nat) (lat : Nat → Int32) (gar : Nat → Nat) (came c : Nat) : Nat := rdF play (lat (came % 16)) (gar (came % 16)) c
/-- a code comes -/
def yIn {P : Type} (nl : P → P) (full : P → Bool) (add : P → Nat → P) (uns : Bool) (play : Nat) (lat : Nat → Int32) (gar : Nat → Nat) (c : Nat) (y : YT P) : YT P :=
  yOb nl full add uns (rdY play lat gar y.1 c) (y.1 + 1, if rdY play lat gar y.1 c = c then y.2.1 else y.2.1 + 1, y.2.2)
/-- codes of the tape come, from the place rd on -/
def yRun {P : Type} (nl : P → P) (full : P → Bool) (add : P → Nat → P) (uns : Bool) (play : Nat) (lat : Nat → Int32) (gar : Nat → Nat) (T : Nat → Nat) (rd : Nat) (y : YT P) : Nat → YT P
  | 0 => y
  | m + 1 => yIn nl full add uns play lat gar (T (rd + m)) (yRun nl full add uns play lat gar T rd y m)
theorem yRun_1 {P : Type} {nl : P → P} {full : P → Bool} {add : P → Nat → P} {uns : Bool} {play : Nat} {lat : Nat → Int32} {gar : Nat → Nat} {T : Nat → Nat} {rd : Nat} {y : YT P} (m : Nat) : (yRun nl full add uns play lat gar T rd y m).1 = y.1 + m := by
  induction m with
  | zero => rfl
  | succ m ih => simp only [yRun, yIn, yOb, ih]; omega
/-- how many of m codes would be read as another -/
def wrN (play : Nat) (lat : Nat → Int32) (gar : Nat → Nat) (T : Nat → Nat) (rd came : Nat) : Nat → Nat
  | 0 => 0
  | m + 1 => if rdY play lat gar (came + m) (T (rd + m)) = T (rd + m) then wrN play lat gar T rd came m else wrN play lat gar T rd came m + 1
theorem wrN_le (play : Nat) (lat : Nat → Int32) (gar : Nat → Nat) (T : Nat → Nat) (rd came m : Nat) : wrN play lat gar T rd came m ≤ m := by
  induction m with
  | zero => exact Nat.le_refl _
  | succ m ih => simp only [wrN]; split <;> omega
/-- the page of the class: the first slot, the lines, the sizes by slot, the characters by slot -/
abbrev PC : Type := Nat × Nat × (Nat → Nat) × (Nat → Nat → Nat)
def cNl (p : PC) : PC := if p.2.1 < 20 then (p.1, p.2.1 + 1, va_up p.2.2.1 (slt p.1 p.2.1) 0, p.2.2.2) else (slt p.1 1, p.2.1, va_up p.2.2.1 p.1 0, p.2.2.2)
def cFull (p : PC) : Bool := decide (p.2.2.1 (slt p.1 (p.2.1 - 1)) = 40)
def cAdd (p : PC) (ch : Nat) : PC := (p.1, p.2.1, va_up p.2.2.1 (slt p.1 (p.2.1 - 1)) (p.2.2.1 (slt p.1 (p.2.1 - 1)) + 1), va_up p.2.2.2 (slt p.1 (p.2.1 - 1)) (va_up (p.2.2.2 (slt p.1 (p.2.1 - 1))) (p.2.2.1 (slt p.1 (p.2.1 - 1))) ch))
def cWf (p : PC) : Prop := p.1 < 20 ∧ 0 < p.2.1 ∧ p.2.1 ≤ 20
theorem cWf_nl {p : PC} (h : cWf p) : cWf (cNl p) := by
  unfold cNl
  have h1 := slt_lt p.1 1
  obtain ⟨h2, h3, h4⟩ := h
  split
  · exact ⟨h2, by show 0 < p.2.1 + 1; omega, by show p.2.1 + 1 ≤ 20; omega⟩
  · exact ⟨h1, h3, h4⟩
theorem cWf_ob {p : PC} {ch : Nat} (h : cWf p) : cWf (pOb cNl cFull cAdd ch p) := by
  unfold pOb
  split
  · exact cWf_nl h
  · split
    · exact h
    · split
      · exact h
      · exact h
/-- the class's object and all that belongs to it -/
abbrev CR (k : mC) (ad : Nat → Nat) (g : Nat → va_E) (uns : Bool) (play rd n : Nat) (lat : Nat → Int32) (gar T : Nat → Nat) (y : YT PC) (r : Nat → Option Nat) : Prop :=
  g 0 = .inr (3, [.ref (ad 1), .ref (ad 6), .ref (ad 48), .int (nI rd), .int (bI y.2.2.2.2.1), .int (bI uns), .int (nI y.1), .int y.2.1, .int y.2.2.1, .int y.2.2.2.1]) ∧ CWi k ad g play lat gar ∧ CSh k ad g y.2.2.2.2.2.1 y.2.2.2.2.2.2.1 y.2.2.2.2.2.2.2.1 y.2.2.2.2.2.2.2.2 r ∧ CRow k ad g 48 120 n (fun j => nI (T j))
/-- the numbers are in their bounds -/
def CW (play rd n : Nat) (lat : Nat → Int32) (gar T : Nat → Nat) : Prop := play ≤ 9 ∧ rd ≤ n ∧ n ≤ 120 ∧ (∀ j, j < 16 → gar j < 32) ∧ (∀ j, T j < 32) ∧ ∀ j, -9 ≤ lat j ∧ lat j ≤ 9
theorem inC_lo {x : Int32} (h : x < nI 1) : inC x = false := by
  simp only [inC, Bool.and_eq_false_iff, decide_eq_false_iff_not]
  left; intro q; rw [Int32.le_iff_toInt_le] at q; rw [Int32.lt_iff_toInt_lt] at h
  have e1 : (nI 1).toInt = 1 := by decide
  have e2 : (1 : Int32).toInt = 1 := by decide
  omega
theorem inC_hi {x : Int32} (h : nI 54 < x) : inC x = false := by
  simp only [inC, Bool.and_eq_false_iff, decide_eq_false_iff_not]
  right; intro q; rw [Int32.le_iff_toInt_le] at q; rw [Int32.lt_iff_toInt_lt] at h
  have e1 : (nI 54).toInt = 54 := by decide
  have e2 : (54 : Int32).toInt = 54 := by decide
  omega
theorem inC_yes {x : Int32} (h : ¬ x < nI 1) (h2 : ¬ nI 54 < x) : inC x = true := by
  simp only [inC, Bool.and_eq_true, decide_eq_true_eq]
  rw [Int32.lt_iff_toInt_lt] at h h2
  have e1 : (nI 1).toInt = 1 := by decide
  have e2 : (1 : Int32).toInt = 1 := by decide
  have e3 : (nI 54).toInt = 54 := by decide
  have e4 : (54 : Int32).toInt = 54 := by decide
  constructor <;> rw [Int32.le_iff_toInt_le] <;> omega
theorem inN_lt {x : Int32} {n : Nat} (h : ¬ x < 0) (h2 : x < nI n) : inN x n = true := inN_yes h (fun q => by rw [Int32.lt_iff_toInt_lt] at h2; rw [Int32.le_iff_toInt_le] at q; omega)
theorem inN_nlt {x : Int32} {n : Nat} (h : ¬ x < nI n) : inN x n = false := inN_big (by rw [Int32.lt_iff_toInt_lt] at h; rw [Int32.le_iff_toInt_le]; omega)
theorem inN_le {x : Int32} {n : Nat} (h : ¬ x < 0) (h2 : x ≤ nI n) (hn : n < 2147483647) : inN x (n + 1) = true := by
  refine inN_lt h ?_
  rw [Int32.le_iff_toInt_le, nI_toInt (by omega)] at h2
  rw [Int32.lt_iff_toInt_lt, nI_toInt (by omega)]
  omega
theorem inN_nle {x : Int32} {n : Nat} (h2 : ¬ x ≤ nI n) (hn : n < 2147483647) : inN x (n + 1) = false := by
  refine inN_big ?_
  rw [Int32.le_iff_toInt_le, nI_toInt (by omega)] at h2
  rw [Int32.le_iff_toInt_le, nI_toInt (by omega)]
  omega
theorem inN_gt {x : Int32} {n : Nat} (h : nI n < x) (hn : n < 2147483647) : inN x (n + 1) = false := inN_nle (fun q => by rw [Int32.lt_iff_toInt_lt] at h; rw [Int32.le_iff_toInt_le] at q; omega) hn
theorem inN_ngt {x : Int32} {n : Nat} (h1 : ¬ x < 0) (h : ¬ nI n < x) (hn : n < 2147483647) : inN x (n + 1) = true := inN_le h1 (by rw [Int32.lt_iff_toInt_lt] at h; rw [Int32.le_iff_toInt_le]; omega) hn
set_option maxHeartbeats 4000000 in
set_option maxRecDepth 100000 in
theorem c_X3_isCode (k : mC) (l : Launch) (ad : Nat → Nat) (N : Nat) (g : Nat → va_E) (sz : Nat) (x : Int32) : mCi k l yX3_isCode wsX3_isCode { frames := 0, cells := 0, slots := 0, locals := 0 } ad N g sz [.int x] (fun r g1 => r = bI (inN x 32) ∧ g1 = g) := by
  refine mOf (Qc := fun z9 => va_Qi (fun r g1 => r = bI (inN x 32) ∧ g1 = g) (mB k ad N) (mA ad N z9)) (cc := cX3_isCode) (maxL := 1) (ret := (some .boolean)) (by decide) rfl (Nat.le_of_ble_eq_true rfl) ?_
  intro p e s m below meth c hx hb hr hts hown hlocks hml hin hE hI ls hl
  have hl : lv_has ls 1 [(0, .int x)] := hl
  refine lv_iload_n hx hb dX3_isCode_0 rfl (lv_at hl 0 rfl) ?_
  refine lv_if_lt (tgt := 14) hx hb dX3_isCode_1 (by decide) (fun c_1 => ?_) (fun c_1 => ?_)
  · refine lv_iconst (v := nI 0) hx hb dX3_isCode_14 (by decide) ?_
    refine m_top (y := bI false) (by decide) ?_
    exact m_zret (v := false) hx hb hr hlocks hI (⟨by rw [inN_neg c_1], rfl⟩) dX3_isCode_15
  · refine lv_iload_n hx hb dX3_isCode_4 rfl (lv_at hl 0 rfl) ?_
    refine lv_bipush (v := nI 31) hx hb dX3_isCode_5 (by decide) ?_
    refine lv_icmp_gt (tgt := 14) hx hb dX3_isCode_7 (by decide) (fun c_7 => ?_) (fun c_7 => ?_)
    · refine lv_iconst (v := nI 0) hx hb dX3_isCode_14 (by decide) ?_
      refine m_top (y := bI false) (by decide) ?_
      exact m_zret (v := false) hx hb hr hlocks hI (⟨by rw [inN_gt (n := 31) c_7 (by omega)], rfl⟩) dX3_isCode_15
    · refine lv_iconst (v := nI 1) hx hb dX3_isCode_10 (by decide) ?_
      refine lv_goto (tgt := 15) hx hb dX3_isCode_11 (by decide) ?_
      refine m_top (y := bI true) (by decide) ?_
      exact m_zret (v := true) hx hb hr hlocks hI (⟨by rw [inN_ngt (n := 31) c_1 c_7 (by omega)], rfl⟩) dX3_isCode_15
set_option maxHeartbeats 4000000 in
set_option maxRecDepth 100000 in
theorem c_X3_isCharacter (k : mC) (l : Launch) (ad : Nat → Nat) (N : Nat) (g : Nat → va_E) (sz : Nat) (x : Int32) : mCi k l yX3_isCharacter wsX3_isCharacter { frames := 0, cells := 0, slots := 0, locals := 0 } ad N g sz [.int x] (fun r g1 => r = bI (inC x) ∧ g1 = g) := by
  refine mOf (Qc := fun z9 => va_Qi (fun r g1 => r = bI (inC x) ∧ g1 = g) (mB k ad N) (mA ad N z9)) (cc := cX3_isCharacter) (maxL := 1) (ret := (some .boolean)) (by decide) rfl (Nat.le_of_ble_eq_true rfl) ?_
  intro p e s m below meth c hx hb hr hts hown hlocks hml hin hE hI ls hl
  have hl : lv_has ls 1 [(0, .int x)] := hl
  refine lv_iload_n hx hb dX3_isCharacter_0 rfl (lv_at hl 0 rfl) ?_
  refine lv_iconst (v := nI 1) hx hb dX3_isCharacter_1 (by decide) ?_
  refine lv_icmp_lt (tgt := 15) hx hb dX3_isCharacter_2 (by decide) (fun c_2 => ?_) (fun c_2 => ?_)
  · refine lv_iconst (v := nI 0) hx hb dX3_isCharacter_15 (by decide) ?_
    refine m_top (y := bI false) (by decide) ?_
    exact m_zret (v := false) hx hb hr hlocks hI (⟨by rw [show inC x = false from inC_lo c_2], rfl⟩) dX3_isCharacter_16
  · refine lv_iload_n hx hb dX3_isCharacter_5 rfl (lv_at hl 0 rfl) ?_
    refine lv_bipush (v := nI 54) hx hb dX3_isCharacter_6 (by decide) ?_
    refine lv_icmp_gt (tgt := 15) hx hb dX3_isCharacter_8 (by decide) (fun c_8 => ?_) (fun c_8 => ?_)
    · refine lv_iconst (v := nI 0) hx hb dX3_isCharacter_15 (by decide) ?_
      refine m_top (y := bI false) (by decide) ?_
      exact m_zret (v := false) hx hb hr hlocks hI (⟨by rw [show inC x = false from inC_hi c_8], rfl⟩) dX3_isCharacter_16
    · refine lv_iconst (v := nI 1) hx hb dX3_isCharacter_11 (by decide) ?_
      refine lv_goto (tgt := 16) hx hb dX3_isCharacter_12 (by decide) ?_
      refine m_top (y := bI true) (by decide) ?_
      exact m_zret (v := true) hx hb hr hlocks hI (⟨by rw [show inC x = true from inC_yes c_2 c_8], rfl⟩) dX3_isCharacter_16
set_option maxHeartbeats 4000000 in
set_option maxRecDepth 100000 in
theorem c_X3_isFigure (k : mC) (l : Launch) (ad : Nat → Nat) (N : Nat) (g : Nat → va_E) (sz : Nat) (x : Nat) (hx54 : x ≤ 54) : mCi k l yX3_isFigure wsX3_isFigure { frames := 0, cells := 0, slots := 0, locals := 0 } ad N g sz [.int (nI x)] (fun r g1 => r = bI (decide (26 < x) && decide (x < 53)) ∧ g1 = g) := by
  refine mOf (Qc := fun z9 => va_Qi (fun r g1 => r = bI (decide (26 < x) && decide (x < 53)) ∧ g1 = g) (mB k ad N) (mA ad N z9)) (cc := cX3_isFigure) (maxL := 1) (ret := (some .boolean)) (by decide) rfl (Nat.le_of_ble_eq_true rfl) ?_
  intro p e s m below meth c hx hb hr hts hown hlocks hml hin hE hI ls hl
  have hl : lv_has ls 1 [(0, .int (nI x))] := hl
  refine lv_iload_n hx hb dX3_isFigure_0 rfl (lv_at hl 0 rfl) ?_
  refine lv_bipush (v := nI 26) hx hb dX3_isFigure_1 (by decide) ?_
  refine m_cleN (tgt := 16) hx hb (by omega) (by omega) dX3_isFigure_3 (by decide) (fun c_3 => ?_) (fun c_3 => ?_)
  · refine lv_iconst (v := nI 0) hx hb dX3_isFigure_16 (by decide) ?_
    refine m_top (y := bI false) (by decide) ?_
    exact m_zret (v := false) hx hb hr hlocks hI (⟨by rw [show decide (26 < x) = false from decide_eq_false (by omega)] <;> rfl, rfl⟩) dX3_isFigure_17
  · refine lv_iload_n hx hb dX3_isFigure_6 rfl (lv_at hl 0 rfl) ?_
    refine lv_bipush (v := nI 53) hx hb dX3_isFigure_7 (by decide) ?_
    refine m_cgeN (tgt := 16) hx hb (by omega) (by omega) dX3_isFigure_9 (by decide) (fun c_9 => ?_) (fun c_9 => ?_)
    · refine lv_iconst (v := nI 0) hx hb dX3_isFigure_16 (by decide) ?_
      refine m_top (y := bI false) (by decide) ?_
      exact m_zret (v := false) hx hb hr hlocks hI (⟨by rw [show decide (26 < x) = true from decide_eq_true (by omega), show decide (x < 53) = false from decide_eq_false (by omega)] <;> rfl, rfl⟩) dX3_isFigure_17
    · refine lv_iconst (v := nI 1) hx hb dX3_isFigure_12 (by decide) ?_
      refine lv_goto (tgt := 17) hx hb dX3_isFigure_13 (by decide) ?_
      refine m_top (y := bI true) (by decide) ?_
      exact m_zret (v := true) hx hb hr hlocks hI (⟨by rw [show decide (26 < x) = true from decide_eq_true (by omega), show decide (x < 53) = true from decide_eq_true (by omega)] <;> rfl, rfl⟩) dX3_isFigure_17
set_option maxHeartbeats 4000000 in
set_option maxRecDepth 100000 in
theorem c_X3_codeOf (k : mC) (l : Launch) (ad : Nat → Nat) (N : Nat) (g : Nat → va_E) (sz : Nat) (x : Nat) (hx54 : x ≤ 54) : mCi k l yX3_codeOf wsX3_codeOf { frames := 0, cells := 0, slots := 0, locals := 0 } ad N g sz [.int (nI x)] (fun r g1 => r = nI (cd x) ∧ g1 = g) := by
  refine mOf (Qc := fun z9 => va_Qi (fun r g1 => r = nI (cd x) ∧ g1 = g) (mB k ad N) (mA ad N z9)) (cc := cX3_codeOf) (maxL := 1) (ret := (some .int)) (by decide) rfl (Nat.le_of_ble_eq_true rfl) ?_
  intro p e s m below meth c hx hb hr hts hown hlocks hml hin hE hI ls hl
  have hl : lv_has ls 1 [(0, .int (nI x))] := hl
  refine lv_iload_n hx hb dX3_codeOf_0 rfl (lv_at hl 0 rfl) ?_
  refine m_zltN (tgt := 20) hx hb (by omega) dX3_codeOf_1 (by decide) ?_
  refine lv_iload_n hx hb dX3_codeOf_4 rfl (lv_at hl 0 rfl) ?_
  refine va_gets hx hb hE.1.2.1.1 hI.2 hown (hts (.fieldLink RX3 207 "TapePrinter" "CODES" "[I") (by decide +kernel)) (fun _ h => h) dX3_codeOf_5 ?_
  refine va_tlen hx hb hE.1.2.1.2 hI.2 (v := nI 55) rfl dX3_codeOf_8 ?_
  refine m_cgeN (tgt := 20) hx hb (by omega) (by omega) dX3_codeOf_9 (by decide) (fun c_9 => ?_) (fun c_9 => ?_)
  · exact absurd c_9 (by omega)
  · refine va_gets hx hb hE.1.2.1.1 hI.2 hown (hts (.fieldLink RX3 207 "TapePrinter" "CODES" "[I") (by decide +kernel)) (fun _ h => h) dX3_codeOf_12 ?_
    refine lv_iload_n hx hb dX3_codeOf_15 rfl (lv_at hl 0 rfl) ?_
    refine va_ti hx hb hE.1.2.1.2 hI.2 (vp_in_nI (n := x) (by omega) (by omega)) (v := .int (nI (cd x))) (by rw [nI_clamp (by omega)]) dX3_codeOf_16 ?_
    refine lv_goto (tgt := 21) hx hb dX3_codeOf_17 (by decide) ?_
    exact m_iret hx hb hr hlocks hI (⟨rfl, rfl⟩) dX3_codeOf_21
set_option maxHeartbeats 4000000 in
set_option maxRecDepth 100000 in
theorem c_X3_characterInLetters (k : mC) (l : Launch) (ad : Nat → Nat) (N : Nat) (g : Nat → va_E) (sz : Nat) (x : Nat) (hx32 : x < 32) : mCi k l yX3_characterInLetters wsX3_characterInLetters { frames := 0, cells := 0, slots := 0, locals := 0 } ad N g sz [.int (nI x)] (fun r g1 => r = nI (chL x) ∧ g1 = g) := by
  refine mOf (Qc := fun z9 => va_Qi (fun r g1 => r = nI (chL x) ∧ g1 = g) (mB k ad N) (mA ad N z9)) (cc := cX3_characterInLetters) (maxL := 1) (ret := (some .int)) (by decide) rfl (Nat.le_of_ble_eq_true rfl) ?_
  intro p e s m below meth c hx hb hr hts hown hlocks hml hin hE hI ls hl
  have hl : lv_has ls 1 [(0, .int (nI x))] := hl
  refine lv_iload_n hx hb dX3_characterInLetters_0 rfl (lv_at hl 0 rfl) ?_
  refine m_zltN (tgt := 20) hx hb (by omega) dX3_characterInLetters_1 (by decide) ?_
  refine lv_iload_n hx hb dX3_characterInLetters_4 rfl (lv_at hl 0 rfl) ?_
  refine va_gets hx hb hE.1.2.2.1.1 hI.2 hown (hts (.fieldLink RX3 214 "TapePrinter" "CHARACTERS" "[I") (by decide +kernel)) (fun _ h => h) dX3_characterInLetters_5 ?_
  refine va_tlen hx hb hE.1.2.2.1.2 hI.2 (v := nI 32) rfl dX3_characterInLetters_8 ?_
  refine m_cgeN (tgt := 20) hx hb (by omega) (by omega) dX3_characterInLetters_9 (by decide) (fun c_9 => ?_) (fun c_9 => ?_)
  · exact absurd c_9 (by omega)
  · refine va_gets hx hb hE.1.2.2.1.1 hI.2 hown (hts (.fieldLink RX3 214 "TapePrinter" "CHARACTERS" "[I") (by decide +kernel)) (fun _ h => h) dX3_characterInLetters_12 ?_
    refine lv_iload_n hx hb dX3_characterInLetters_15 rfl (lv_at hl 0 rfl) ?_
    refine va_ti hx hb hE.1.2.2.1.2 hI.2 (vp_in_nI (n := x) (by omega) (by omega)) (v := .int (nI (chL x))) (by rw [nI_clamp (by omega)]) dX3_characterInLetters_16 ?_
    refine lv_goto (tgt := 21) hx hb dX3_characterInLetters_17 (by decide) ?_
    exact m_iret hx hb hr hlocks hI (⟨rfl, rfl⟩) dX3_characterInLetters_21
set_option maxHeartbeats 4000000 in
set_option maxRecDepth 100000 in
theorem c_X3_dependsOnShift (k : mC) (l : Launch) (ad : Nat → Nat) (N : Nat) (g : Nat → va_E) (sz : Nat) (x : Nat) (hx32 : x < 32) : mCi k l yX3_dependsOnShift wsX3_dependsOnShift { frames := 1, cells := 0, slots := 0, locals := 20 } ad N g sz [.int (nI x)] (fun r g1 => r = bI (dep x) ∧ g1 = g) := by
  refine mOf (Qc := fun z9 => va_Qi (fun r g1 => r = bI (dep x) ∧ g1 = g) (mB k ad N) (mA ad N z9)) (cc := cX3_dependsOnShift) (maxL := 2) (ret := (some .boolean)) (by decide) rfl (Nat.le_of_ble_eq_true rfl) ?_
  intro p e s m below meth c hx hb hr hts hown hlocks hml hin hE hI ls hl
  have hl : lv_has ls 2 [(0, .int (nI x))] := hl
  have hch := chL_le x hx32
  refine lv_iload_n hx hb dX3_dependsOnShift_0 rfl (lv_at hl 0 rfl) ?_
  refine m_callSi (As := [.int (nI x)]) (rest := []) ⟨hx, hb, hml, hown, hts⟩ hE hI (c_X3_characterInLetters k l ad N g _ x (by omega)) (va_cwS 1 hts gX3_dependsOnShift_X3_characterInLetters rfl rfl rfl (by decide +kernel) ⟨Nat.le_of_ble_eq_true rfl, Nat.le_of_ble_eq_true rfl⟩) rfl hl.1 rfl (Nat.le_of_ble_eq_true rfl) dX3_dependsOnShift_1 ⟨Nat.le_of_ble_eq_true rfl, Nat.le_of_ble_eq_true rfl⟩ (m_deti (fun H locs hI => ?_))
  refine lv_istore_n (lv' := [(1, .int (nI (chL x))), (0, .int (nI x))]) hx hb dX3_dependsOnShift_4 rfl hl (by decide) rfl (fun ls hl => ?_)
  refine lv_iload_n hx hb dX3_dependsOnShift_5 rfl (lv_at hl 0 rfl) ?_
  refine m_zeqN (tgt := 19) hx hb (by omega) dX3_dependsOnShift_6 (by decide) (fun c_6 => ?_) (fun c_6 => ?_)
  · refine lv_iconst (v := nI 0) hx hb dX3_dependsOnShift_19 (by decide) ?_
    refine m_top (y := bI false) (by decide) ?_
    exact m_zret (v := false) hx hb hr hlocks hI (⟨by unfold dep; rw [c_6] <;> rfl, rfl⟩) dX3_dependsOnShift_20
  · refine lv_iload_n hx hb dX3_dependsOnShift_9 rfl (lv_at hl 0 rfl) ?_
    refine lv_bipush (v := nI 26) hx hb dX3_dependsOnShift_10 (by decide) ?_
    refine m_cgtN (tgt := 19) hx hb (by omega) (by omega) dX3_dependsOnShift_12 (by decide) (fun c_12 => ?_) (fun c_12 => ?_)
    · refine lv_iconst (v := nI 0) hx hb dX3_dependsOnShift_19 (by decide) ?_
      refine m_top (y := bI false) (by decide) ?_
      exact m_zret (v := false) hx hb hr hlocks hI (⟨by rw [show dep x = false from by unfold dep; rw [show decide (chL x ≤ 26) = false from decide_eq_false (by omega), Bool.and_false]] <;> rfl, rfl⟩) dX3_dependsOnShift_20
    · refine lv_iconst (v := nI 1) hx hb dX3_dependsOnShift_15 (by decide) ?_
      refine lv_goto (tgt := 20) hx hb dX3_dependsOnShift_16 (by decide) ?_
      refine m_top (y := bI true) (by decide) ?_
      exact m_zret (v := true) hx hb hr hlocks hI (⟨by rw [show dep x = true from by unfold dep; rw [show decide (chL x ≤ 26) = true from decide_eq_true (by omega), show decide (chL x ≠ 0) = true from decide_eq_true c_6] <;> rfl] <;> rfl, rfl⟩) dX3_dependsOnShift_20
set_option maxHeartbeats 4000000 in
set_option maxRecDepth 100000 in
theorem c_X3_characterOf (k : mC) (l : Launch) (ad : Nat → Nat) (N : Nat) (g : Nat → va_E) (sz : Nat) (x : Nat) (b : Bool) (hx32 : x < 32) : mCi k l yX3_characterOf wsX3_characterOf { frames := 2, cells := 0, slots := 0, locals := 41 } ad N g sz [.int (nI x), .int (bI b)] (fun r g1 => r = nI (chF x b) ∧ g1 = g) := by
  refine mOf (Qc := fun z9 => va_Qi (fun r g1 => r = nI (chF x b) ∧ g1 = g) (mB k ad N) (mA ad N z9)) (cc := cX3_characterOf) (maxL := 3) (ret := (some .int)) (by decide) rfl (Nat.le_of_ble_eq_true rfl) ?_
  intro p e s m below meth c hx hb hr hts hown hlocks hml hin hE hI ls hl
  have hl : lv_has ls 3 [(0, .int (nI x)), (1, .int (bI b))] := hl
  have hch := chL_le x hx32
  refine lv_iload_n hx hb dX3_characterOf_0 rfl (lv_at hl 0 rfl) ?_
  refine m_callSi (As := [.int (nI x)]) (rest := []) ⟨hx, hb, hml, hown, hts⟩ hE hI (c_X3_characterInLetters k l ad N g _ x (by omega)) (va_cwS 1 hts gX3_characterOf_X3_characterInLetters rfl rfl rfl (by decide +kernel) ⟨Nat.le_of_ble_eq_true rfl, Nat.le_of_ble_eq_true rfl⟩) rfl hl.1 rfl (Nat.le_of_ble_eq_true rfl) dX3_characterOf_1 ⟨Nat.le_of_ble_eq_true rfl, Nat.le_of_ble_eq_true rfl⟩ (m_deti (fun H locs hI => ?_))
  refine lv_istore_n (lv' := [(2, .int (nI (chL x))), (0, .int (nI x)), (1, .int (bI b))]) hx hb dX3_characterOf_4 rfl hl (by decide) rfl (fun ls hl => ?_)
  refine lv_iload_n hx hb dX3_characterOf_5 rfl (lv_at hl 2 rfl) ?_
  refine m_zeqB (tgt := 23) hx hb dX3_characterOf_6 (by decide) (fun c_6 => ?_) (fun c_6 => ?_)
  · refine lv_iload_n hx hb dX3_characterOf_23 rfl (lv_at hl 0 rfl) ?_
    exact m_iret hx hb hr hlocks hI (⟨by unfold chF; rw [c_6] <;> rfl, rfl⟩) dX3_characterOf_24
  · refine lv_iload_n hx hb dX3_characterOf_9 rfl (lv_at hl 1 rfl) ?_
    refine m_callSi (As := [.int (nI x)]) (rest := []) ⟨hx, hb, hml, hown, hts⟩ hE hI (c_X3_dependsOnShift k l ad N g _ x (by omega)) (va_cwS 1 hts gX3_characterOf_X3_dependsOnShift rfl rfl rfl (by decide +kernel) ⟨Nat.le_of_ble_eq_true rfl, Nat.le_of_ble_eq_true rfl⟩) rfl hl.1 rfl (Nat.le_of_ble_eq_true rfl) dX3_characterOf_10 ⟨Nat.le_of_ble_eq_true rfl, Nat.le_of_ble_eq_true rfl⟩ (m_deti (fun H locs hI => ?_))
    refine m_zeqB (tgt := 23) hx hb dX3_characterOf_13 (by decide) (fun c_13 => ?_) (fun c_13 => ?_)
    · refine lv_iload_n hx hb dX3_characterOf_23 rfl (lv_at hl 0 rfl) ?_
      exact m_iret hx hb hr hlocks hI (⟨by unfold chF; rw [c_13, Bool.and_false] <;> rfl, rfl⟩) dX3_characterOf_24
    · refine lv_iload_n hx hb dX3_characterOf_16 rfl (lv_at hl 0 rfl) ?_
      refine lv_bipush (v := nI 26) hx hb dX3_characterOf_17 (by decide) ?_
      refine m_iaddN hx hb dX3_characterOf_19 ?_
      refine lv_goto (tgt := 24) hx hb dX3_characterOf_20 (by decide) ?_
      exact m_iret hx hb hr hlocks hI (⟨by unfold chF; rw [c_13, c_6] <;> rfl, rfl⟩) dX3_characterOf_24
set_option maxHeartbeats 4000000 in
set_option maxRecDepth 100000 in
theorem c_X3_isShift (k : mC) (l : Launch) (ad : Nat → Nat) (N : Nat) (g : Nat → va_E) (sz : Nat) (x : Nat) (hx32 : x < 32) : mCi k l yX3_isShift wsX3_isShift { frames := 0, cells := 0, slots := 0, locals := 0 } ad N g sz [.int (nI x)] (fun r g1 => r = bI (isSh x) ∧ g1 = g) := by
  refine mOf (Qc := fun z9 => va_Qi (fun r g1 => r = bI (isSh x) ∧ g1 = g) (mB k ad N) (mA ad N z9)) (cc := cX3_isShift) (maxL := 1) (ret := (some .boolean)) (by decide) rfl (Nat.le_of_ble_eq_true rfl) ?_
  intro p e s m below meth c hx hb hr hts hown hlocks hml hin hE hI ls hl
  have hl : lv_has ls 1 [(0, .int (nI x))] := hl
  refine lv_iload_n hx hb dX3_isShift_0 rfl (lv_at hl 0 rfl) ?_
  refine lv_bipush (v := nI 31) hx hb dX3_isShift_1 (by decide) ?_
  refine m_ceqN (tgt := 12) hx hb (by omega) (by omega) dX3_isShift_3 (by decide) (fun c_3 => ?_) (fun c_3 => ?_)
  · refine lv_iconst (v := nI 1) hx hb dX3_isShift_12 (by decide) ?_
    refine lv_goto (tgt := 17) hx hb dX3_isShift_13 (by decide) ?_
    refine m_top (y := bI true) (by decide) ?_
    exact m_zret (v := true) hx hb hr hlocks hI (⟨by rw [c_3] <;> rfl, rfl⟩) dX3_isShift_17
  · refine lv_iload_n hx hb dX3_isShift_6 rfl (lv_at hl 0 rfl) ?_
    refine lv_bipush (v := nI 27) hx hb dX3_isShift_7 (by decide) ?_
    refine m_cneN (tgt := 16) hx hb (by omega) (by omega) dX3_isShift_9 (by decide) (fun c_9 => ?_) (fun c_9 => ?_)
    · refine lv_iconst (v := nI 0) hx hb dX3_isShift_16 (by decide) ?_
      refine m_top (y := bI false) (by decide) ?_
      exact m_zret (v := false) hx hb hr hlocks hI (⟨by rw [show isSh x = false from by unfold isSh; rw [decide_eq_false c_3, decide_eq_false c_9] <;> rfl] <;> rfl, rfl⟩) dX3_isShift_17
    · refine lv_iconst (v := nI 1) hx hb dX3_isShift_12 (by decide) ?_
      refine lv_goto (tgt := 17) hx hb dX3_isShift_13 (by decide) ?_
      refine m_top (y := bI true) (by decide) ?_
      exact m_zret (v := true) hx hb hr hlocks hI (⟨by rw [c_9] <;> rfl, rfl⟩) dX3_isShift_17
set_option maxHeartbeats 4000000 in
set_option maxRecDepth 100000 in
theorem c_X3_shiftsToLetters (k : mC) (l : Launch) (ad : Nat → Nat) (N : Nat) (g : Nat → va_E) (sz : Nat) (rd : Nat) (fig uns : Bool) (came : Nat) (mis lost bel : Int32) (x : Nat) (hN : 50 ≤ N) (h0 : g 0 = .inr (3, [.ref (ad 1), .ref (ad 6), .ref (ad 48), .int (nI rd), .int (bI fig), .int (bI uns), .int (nI came), .int mis, .int lost, .int bel])) (hx32 : x < 32) : mCi k l yX3_shiftsToLetters wsX3_shiftsToLetters { frames := 0, cells := 0, slots := 0, locals := 0 } ad N g sz [.ref (ad 0), .int (nI x)] (fun r g1 => r = bI (stl uns x) ∧ g1 = g) := by
  refine mOf (Qc := fun z9 => va_Qi (fun r g1 => r = bI (stl uns x) ∧ g1 = g) (mB k ad N) (mA ad N z9)) (cc := cX3_shiftsToLetters) (maxL := 2) (ret := (some .boolean)) (by decide) rfl (Nat.le_of_ble_eq_true rfl) ?_
  intro p e s m below meth c hx hb hr hts hown hlocks hml hin hE hI ls hl
  have hl : lv_has ls 2 [(0, .ref (ad 0)), (1, .int (nI x))] := hl
  refine lv_iload_n hx hb dX3_shiftsToLetters_0 rfl (lv_at hl 1 rfl) ?_
  refine lv_bipush (v := nI 31) hx hb dX3_shiftsToLetters_1 (by decide) ?_
  refine m_ceqN (tgt := 23) hx hb (by omega) (by omega) dX3_shiftsToLetters_3 (by decide) (fun c_3 => ?_) (fun c_3 => ?_)
  · refine lv_iconst (v := nI 1) hx hb dX3_shiftsToLetters_23 (by decide) ?_
    refine lv_goto (tgt := 28) hx hb dX3_shiftsToLetters_24 (by decide) ?_
    refine m_top (y := bI true) (by decide) ?_
    exact m_zret (v := true) hx hb hr hlocks hI (⟨by rw [c_3] <;> rfl, rfl⟩) dX3_shiftsToLetters_28
  · refine lv_iload_n hx hb dX3_shiftsToLetters_6 rfl (lv_at hl 1 rfl) ?_
    refine lv_iconst (v := nI 2) hx hb dX3_shiftsToLetters_7 (by decide) ?_
    refine m_ceqN (tgt := 23) hx hb (by omega) (by omega) dX3_shiftsToLetters_8 (by decide) (fun c_8 => ?_) (fun c_8 => ?_)
    · refine lv_iconst (v := nI 1) hx hb dX3_shiftsToLetters_23 (by decide) ?_
      refine lv_goto (tgt := 28) hx hb dX3_shiftsToLetters_24 (by decide) ?_
      refine m_top (y := bI true) (by decide) ?_
      exact m_zret (v := true) hx hb hr hlocks hI (⟨by rw [c_8] <;> rfl, rfl⟩) dX3_shiftsToLetters_28
    · refine lv_aload_n hx hb dX3_shiftsToLetters_11 rfl (lv_at hl 0 rfl) ?_
      refine m_get (ci := 3) (C := RX3) (T := TX3) (N' := 10) hx hb hts (by decide +kernel) hown hE hI 0 (by omega) h0 rfl 5 (by decide) (hts (.fieldLink RX3 90 "TapePrinter" "unshifts" "Z") (by decide +kernel)) rfl dX3_shiftsToLetters_12 ?_
      refine m_zeqB (tgt := 27) hx hb dX3_shiftsToLetters_15 (by decide) (fun c_15 => ?_) (fun c_15 => ?_)
      · refine lv_iconst (v := nI 0) hx hb dX3_shiftsToLetters_27 (by decide) ?_
        refine m_top (y := bI false) (by decide) ?_
        exact m_zret (v := false) hx hb hr hlocks hI (⟨by rw [show stl uns x = false from by unfold stl; rw [decide_eq_false c_3, decide_eq_false c_8, c_15] <;> rfl] <;> rfl, rfl⟩) dX3_shiftsToLetters_28
      · refine lv_iload_n hx hb dX3_shiftsToLetters_18 rfl (lv_at hl 1 rfl) ?_
        refine lv_iconst (v := nI 4) hx hb dX3_shiftsToLetters_19 (by decide) ?_
        refine m_cneN (tgt := 27) hx hb (by omega) (by omega) dX3_shiftsToLetters_20 (by decide) (fun c_20 => ?_) (fun c_20 => ?_)
        · refine lv_iconst (v := nI 0) hx hb dX3_shiftsToLetters_27 (by decide) ?_
          refine m_top (y := bI false) (by decide) ?_
          exact m_zret (v := false) hx hb hr hlocks hI (⟨by rw [show stl uns x = false from by unfold stl; rw [decide_eq_false c_3, decide_eq_false c_8, decide_eq_false c_20, Bool.and_false] <;> rfl] <;> rfl, rfl⟩) dX3_shiftsToLetters_28
        · refine lv_iconst (v := nI 1) hx hb dX3_shiftsToLetters_23 (by decide) ?_
          refine lv_goto (tgt := 28) hx hb dX3_shiftsToLetters_24 (by decide) ?_
          refine m_top (y := bI true) (by decide) ?_
          exact m_zret (v := true) hx hb hr hlocks hI (⟨by rw [c_15, c_20] <;> rfl, rfl⟩) dX3_shiftsToLetters_28
set_option maxHeartbeats 4000000 in
set_option maxRecDepth 100000 in
theorem c_X3_figuresBehind (k : mC) (l : Launch) (ad : Nat → Nat) (N : Nat) (g : Nat → va_E) (sz : Nat) (rd : Nat) (fig uns : Bool) (came : Nat) (mis lost bel : Int32) (x : Nat) (b : Bool) (hN : 50 ≤ N) (h0 : g 0 = .inr (3, [.ref (ad 1), .ref (ad 6), .ref (ad 48), .int (nI rd), .int (bI fig), .int (bI uns), .int (nI came), .int mis, .int lost, .int bel])) (hx32 : x < 32) : mCi k l yX3_figuresBehind wsX3_figuresBehind { frames := 1, cells := 0, slots := 0, locals := 21 } ad N g sz [.ref (ad 0), .int (nI x), .int (bI b)] (fun r g1 => r = bI (fb uns x b) ∧ g1 = g) := by
  refine mOf (Qc := fun z9 => va_Qi (fun r g1 => r = bI (fb uns x b) ∧ g1 = g) (mB k ad N) (mA ad N z9)) (cc := cX3_figuresBehind) (maxL := 3) (ret := (some .boolean)) (by decide) rfl (Nat.le_of_ble_eq_true rfl) ?_
  intro p e s m below meth c hx hb hr hts hown hlocks hml hin hE hI ls hl
  have hl : lv_has ls 3 [(0, .ref (ad 0)), (1, .int (nI x)), (2, .int (bI b))] := hl
  refine lv_iload_n hx hb dX3_figuresBehind_0 rfl (lv_at hl 1 rfl) ?_
  refine lv_bipush (v := nI 27) hx hb dX3_figuresBehind_1 (by decide) ?_
  refine m_cneN (tgt := 8) hx hb (by omega) (by omega) dX3_figuresBehind_3 (by decide) (fun c_3 => ?_) (fun c_3 => ?_)
  · refine lv_iload_n hx hb dX3_figuresBehind_8 rfl (lv_at hl 2 rfl) ?_
    refine m_zeqB (tgt := 24) hx hb dX3_figuresBehind_9 (by decide) (fun c_9 => ?_) (fun c_9 => ?_)
    · refine lv_iconst (v := nI 0) hx hb dX3_figuresBehind_24 (by decide) ?_
      refine m_top (y := bI false) (by decide) ?_
      exact m_zret (v := false) hx hb hr hlocks hI (⟨by rw [show fb uns x b = false from by unfold fb; rw [decide_eq_false c_3, c_9] <;> rfl] <;> rfl, rfl⟩) dX3_figuresBehind_25
    · refine lv_aload_n hx hb dX3_figuresBehind_12 rfl (lv_at hl 0 rfl) ?_
      refine lv_iload_n hx hb dX3_figuresBehind_13 rfl (lv_at hl 1 rfl) ?_
      refine m_callVi (As := [.int (nI x)]) (rest := []) ⟨hx, hb, hml, hown, hts⟩ hE hI (c_X3_shiftsToLetters k l ad N g _ rd fig uns came mis lost bel  x (by omega) h0  (by omega)) (cwV 1 hts gX3_figuresBehind_X3_shiftsToLetters rfl rfl rfl (by decide +kernel) ⟨Nat.le_of_ble_eq_true rfl, Nat.le_of_ble_eq_true rfl⟩) (i := 0) (by omega) h0 rfl rfl hl.1 rfl (Nat.le_of_ble_eq_true rfl) dX3_figuresBehind_14 ⟨Nat.le_of_ble_eq_true rfl, Nat.le_of_ble_eq_true rfl⟩ (m_deti (fun H locs hI => ?_))
      refine m_zneB (tgt := 24) hx hb dX3_figuresBehind_17 (by decide) (fun c_17 => ?_) (fun c_17 => ?_)
      · refine lv_iconst (v := nI 0) hx hb dX3_figuresBehind_24 (by decide) ?_
        refine m_top (y := bI false) (by decide) ?_
        exact m_zret (v := false) hx hb hr hlocks hI (⟨by rw [show fb uns x b = false from by unfold fb; rw [decide_eq_false c_3, c_17, c_9] <;> rfl] <;> rfl, rfl⟩) dX3_figuresBehind_25
      · refine lv_iconst (v := nI 1) hx hb dX3_figuresBehind_20 (by decide) ?_
        refine lv_goto (tgt := 25) hx hb dX3_figuresBehind_21 (by decide) ?_
        refine m_top (y := bI true) (by decide) ?_
        exact m_zret (v := true) hx hb hr hlocks hI (⟨by rw [show fb uns x b = true from by unfold fb; rw [c_17, c_9]; exact Bool.or_true _] <;> rfl, rfl⟩) dX3_figuresBehind_25
  · refine lv_iconst (v := nI 1) hx hb dX3_figuresBehind_6 (by decide) ?_
    refine m_top (y := bI true) (by decide) ?_
    exact m_zret (v := true) hx hb hr hlocks hI (⟨by rw [c_3] <;> rfl, rfl⟩) dX3_figuresBehind_7
set_option maxHeartbeats 4000000 in
set_option maxRecDepth 100000 in
theorem c_X3_figuresAhead (k : mC) (l : Launch) (ad : Nat → Nat) (N : Nat) (g : Nat → va_E) (sz : Nat) (rd : Nat) (fig uns : Bool) (came : Nat) (mis lost bel : Int32) (n : Nat) (T : Nat → Nat) (e0 : Nat) (hN : 50 ≤ N) (h0 : g 0 = .inr (3, [.ref (ad 1), .ref (ad 6), .ref (ad 48), .int (nI rd), .int (bI fig), .int (bI uns), .int (nI came), .int mis, .int lost, .int bel])) (hn : n ≤ 120) (hT : ∀ j, T j < 32) (hr48 : CRow k ad g 48 120 n (fun j => nI (T j))) (he0 : e0 ≤ n) : mCi k l yX3_figuresAhead wsX3_figuresAhead { frames := 2, cells := 0, slots := 0, locals := 43 } ad N g sz [.ref (ad 0), .int (nI e0)] (fun r g1 => r = bI (fa uns T e0) ∧ g1 = g) := by
  refine mOf (Qc := fun z9 => va_Qi (fun r g1 => r = bI (fa uns T e0) ∧ g1 = g) (mB k ad N) (mA ad N z9)) (cc := cX3_figuresAhead) (maxL := 4) (ret := (some .boolean)) (by decide) rfl (Nat.le_of_ble_eq_true rfl) ?_
  intro p e s m below meth c hx hb hr hts hown hlocks hml hin hE hI ls hl
  have hl : lv_has ls 4 [(0, .ref (ad 0)), (1, .int (nI e0))] := hl
  have h48 := hr48.1
  have h49 := hr48.2
  refine lv_iconst (v := nI 0) hx hb dX3_figuresAhead_0 (by decide) ?_
  refine m_top (show nI 0 = bI (fa uns T 0) from rfl) ?_
  refine lv_istore_n (lv' := [(2, .int (bI (fa uns T 0))), (0, .ref (ad 0)), (1, .int (nI e0))]) hx hb dX3_figuresAhead_1 rfl hl (by decide) rfl (fun ls hl => ?_)
  refine lv_iconst (v := nI 0) hx hb dX3_figuresAhead_2 (by decide) ?_
  refine lv_istore_n (lv' := [(3, .int (nI 0)), (2, .int (bI (fa uns T 0))), (0, .ref (ad 0)), (1, .int (nI e0))]) hx hb dX3_figuresAhead_3 rfl hl (by decide) rfl (fun ls hl => ?_)
  refine m_loop (σ := Nat) (fun i => i ≤ e0) (fun i => e0 - i) (fun i => g) (fun i => [(0, .ref (ad 0)), (1, .int (nI e0)), (2, .int (bI (fa uns T i))), (3, .int (nI i))]) (nL := 4) 0 (Nat.zero_le _) hI (lv_sub hl [2, 3, 1, 0] rfl) ?_
  rintro i hie ih4 H locs ls hI hl
  have hI : mI k ad N g (mA ad N s.heap.size) s H locs := hI
  have hl : lv_has ls 4 [(0, .ref (ad 0)), (1, .int (nI e0)), (2, .int (bI (fa uns T i))), (3, .int (nI i))] := hl
  refine lv_iload_n hx hb dX3_figuresAhead_4 rfl (lv_at hl 3 rfl) ?_
  refine lv_iload_n hx hb dX3_figuresAhead_5 rfl (lv_at hl 1 rfl) ?_
  refine m_cgeN (tgt := 40) hx hb (by omega) (by omega) dX3_figuresAhead_6 (by decide) (fun c_6 => ?_) (fun c_6 => ?_)
  · refine lv_iload_n hx hb dX3_figuresAhead_40 rfl (lv_at hl 2 rfl) ?_
    exact m_zret (v := fa uns T i) hx hb hr hlocks hI (⟨by rw [show i = e0 by omega], rfl⟩) dX3_figuresAhead_41
  · refine lv_iload_n hx hb dX3_figuresAhead_9 rfl (lv_at hl 3 rfl) ?_
    refine lv_aload_n hx hb dX3_figuresAhead_10 rfl (lv_at hl 0 rfl) ?_
    refine m_get (ci := 3) (C := RX3) (T := TX3) (N' := 10) hx hb hts (by decide +kernel) hown hE hI 0 (by omega) h0 rfl 2 (by decide) (hts (.fieldLink RX3 28 "TapePrinter" "strip" "LTapePrinter$Row;") (by decide +kernel)) rfl dX3_figuresAhead_11 ?_
    refine m_callVi (As := []) (rest := [.int (nI i)]) ⟨hx, hb, hml, hown, hts⟩ hE hI (c_X0_size k l ad N g _ 48 120 n (fun j => nI (T j))  (by omega) (by omega) (by omega) ⟨h48, h49⟩) (cwV 0 hts gX3_figuresAhead_X0_size rfl rfl rfl (by decide +kernel) ⟨Nat.le_of_ble_eq_true rfl, Nat.le_of_ble_eq_true rfl⟩) (i := 48) (by omega) h48 rfl rfl hl.1 rfl (Nat.le_of_ble_eq_true rfl) dX3_figuresAhead_14 ⟨Nat.le_of_ble_eq_true rfl, Nat.le_of_ble_eq_true rfl⟩ (m_deti (fun H locs hI => ?_))
    refine m_cgeN (tgt := 40) hx hb (by omega) (by omega) dX3_figuresAhead_17 (by decide) (fun c_17 => ?_) (fun c_17 => ?_)
    · exact absurd c_17 (by omega)
    · refine lv_aload_n hx hb dX3_figuresAhead_20 rfl (lv_at hl 0 rfl) ?_
      refine lv_aload_n hx hb dX3_figuresAhead_21 rfl (lv_at hl 0 rfl) ?_
      refine m_get (ci := 3) (C := RX3) (T := TX3) (N' := 10) hx hb hts (by decide +kernel) hown hE hI 0 (by omega) h0 rfl 2 (by decide) (hts (.fieldLink RX3 28 "TapePrinter" "strip" "LTapePrinter$Row;") (by decide +kernel)) rfl dX3_figuresAhead_22 ?_
      refine lv_iload_n hx hb dX3_figuresAhead_25 rfl (lv_at hl 3 rfl) ?_
      refine m_callVi (As := [.int (nI i)]) (rest := [.ref (ad 0)]) ⟨hx, hb, hml, hown, hts⟩ hE hI (c_X0_at k l ad N g _ 48 120 n (fun j => nI (T j)) i (by omega) (by omega) (by omega) ⟨h48, h49⟩ (by omega)) (cwV 1 hts gX3_figuresAhead_X0_at rfl rfl rfl (by decide +kernel) ⟨Nat.le_of_ble_eq_true rfl, Nat.le_of_ble_eq_true rfl⟩) (i := 48) (by omega) h48 rfl rfl hl.1 rfl (Nat.le_of_ble_eq_true rfl) dX3_figuresAhead_26 ⟨Nat.le_of_ble_eq_true rfl, Nat.le_of_ble_eq_true rfl⟩ (m_deti (fun H locs hI => ?_))
      refine m_top (show (fun j => nI (T j)) i = nI (T i) from rfl) ?_
      have ht_1 := hT i
      refine lv_iload_n hx hb dX3_figuresAhead_29 rfl (lv_at hl 2 rfl) ?_
      refine m_callVi (As := [.int (nI (T i)), .int (bI (fa uns T i))]) (rest := []) ⟨hx, hb, hml, hown, hts⟩ hE hI (c_X3_figuresBehind k l ad N g _ rd fig uns came mis lost bel  (T i) (fa uns T i) (by omega) h0  (hT _)) (cwV 2 hts gX3_figuresAhead_X3_figuresBehind rfl rfl rfl (by decide +kernel) ⟨Nat.le_of_ble_eq_true rfl, Nat.le_of_ble_eq_true rfl⟩) (i := 0) (by omega) h0 rfl rfl hl.1 rfl (Nat.le_of_ble_eq_true rfl) dX3_figuresAhead_30 ⟨Nat.le_of_ble_eq_true rfl, Nat.le_of_ble_eq_true rfl⟩ (m_deti (fun H locs hI => ?_))
      refine lv_istore_n (lv' := [(2, .int (bI (fb uns (T i) (fa uns T i)))), (0, .ref (ad 0)), (1, .int (nI e0)), (3, .int (nI i))]) hx hb dX3_figuresAhead_33 rfl hl (by decide) rfl (fun ls hl => ?_)
      refine lv_iinc (v := nI (i + 1)) (lv' := [(3, .int (nI (i + 1))), (2, .int (bI (fb uns (T i) (fa uns T i)))), (0, .ref (ad 0)), (1, .int (nI e0))]) hx hb dX3_figuresAhead_34 hl (k := 3) rfl (nI_add i 1) (by decide) rfl (fun ls hl => ?_)
      refine lv_goto (tgt := 4) hx hb dX3_figuresAhead_37 (by decide) ?_
      exact ih4 (i + 1) (show i + 1 ≤ e0 by omega) (show e0 - (i + 1) < e0 - i by omega) _ _ _ hI (lv_sub hl [2, 3, 1, 0] rfl)
set_option maxHeartbeats 4000000 in
set_option maxRecDepth 100000 in
theorem c_X3_figuresAtEnd (k : mC) (l : Launch) (ad : Nat → Nat) (N : Nat) (g : Nat → va_E) (sz : Nat) (rd : Nat) (fig uns : Bool) (came : Nat) (mis lost bel : Int32) (n : Nat) (T : Nat → Nat)  (hN : 50 ≤ N) (h0 : g 0 = .inr (3, [.ref (ad 1), .ref (ad 6), .ref (ad 48), .int (nI rd), .int (bI fig), .int (bI uns), .int (nI came), .int mis, .int lost, .int bel])) (hn : n ≤ 120) (hT : ∀ j, T j < 32) (hr48 : CRow k ad g 48 120 n (fun j => nI (T j))) : mCi k l yX3_figuresAtEnd wsX3_figuresAtEnd { frames := 3, cells := 0, slots := 0, locals := 66 } ad N g sz [.ref (ad 0)] (fun r g1 => r = bI (fa uns T n) ∧ g1 = g) := by
  refine mOf (Qc := fun z9 => va_Qi (fun r g1 => r = bI (fa uns T n) ∧ g1 = g) (mB k ad N) (mA ad N z9)) (cc := cX3_figuresAtEnd) (maxL := 1) (ret := (some .boolean)) (by decide) rfl (Nat.le_of_ble_eq_true rfl) ?_
  intro p e s m below meth c hx hb hr hts hown hlocks hml hin hE hI ls hl
  have hl : lv_has ls 1 [(0, .ref (ad 0))] := hl
  have h48 := hr48.1
  have h49 := hr48.2
  refine lv_aload_n hx hb dX3_figuresAtEnd_0 rfl (lv_at hl 0 rfl) ?_
  refine lv_aload_n hx hb dX3_figuresAtEnd_1 rfl (lv_at hl 0 rfl) ?_
  refine m_get (ci := 3) (C := RX3) (T := TX3) (N' := 10) hx hb hts (by decide +kernel) hown hE hI 0 (by omega) h0 rfl 2 (by decide) (hts (.fieldLink RX3 28 "TapePrinter" "strip" "LTapePrinter$Row;") (by decide +kernel)) rfl dX3_figuresAtEnd_2 ?_
  refine m_callVi (As := []) (rest := [.ref (ad 0)]) ⟨hx, hb, hml, hown, hts⟩ hE hI (c_X0_size k l ad N g _ 48 120 n (fun j => nI (T j))  (by omega) (by omega) (by omega) ⟨h48, h49⟩) (cwV 0 hts gX3_figuresAtEnd_X0_size rfl rfl rfl (by decide +kernel) ⟨Nat.le_of_ble_eq_true rfl, Nat.le_of_ble_eq_true rfl⟩) (i := 48) (by omega) h48 rfl rfl hl.1 rfl (Nat.le_of_ble_eq_true rfl) dX3_figuresAtEnd_5 ⟨Nat.le_of_ble_eq_true rfl, Nat.le_of_ble_eq_true rfl⟩ (m_deti (fun H locs hI => ?_))
  refine m_callVi (As := [.int (nI n)]) (rest := []) ⟨hx, hb, hml, hown, hts⟩ hE hI (c_X3_figuresAhead k l ad N g _ rd fig uns came mis lost bel n T n (by omega) h0 (by omega) hT ⟨h48, h49⟩ (by omega)) (cwV 1 hts gX3_figuresAtEnd_X3_figuresAhead rfl rfl rfl (by decide +kernel) ⟨Nat.le_of_ble_eq_true rfl, Nat.le_of_ble_eq_true rfl⟩) (i := 0) (by omega) h0 rfl rfl hl.1 rfl (Nat.le_of_ble_eq_true rfl) dX3_figuresAtEnd_8 ⟨Nat.le_of_ble_eq_true rfl, Nat.le_of_ble_eq_true rfl⟩ (m_deti (fun H locs hI => ?_))
  exact m_zret (v := fa uns T n) hx hb hr hlocks hI (⟨rfl, rfl⟩) dX3_figuresAtEnd_11
set_option maxHeartbeats 4000000 in
set_option maxRecDepth 100000 in
theorem c_X3_servesBehind (k : mC) (l : Launch) (ad : Nat → Nat) (N : Nat) (g : Nat → va_E) (sz : Nat) (rd : Nat) (fig uns : Bool) (came : Nat) (mis lost bel : Int32) (n : Nat) (T : Nat → Nat) (s0 : Nat) (hN : 50 ≤ N) (h0 : g 0 = .inr (3, [.ref (ad 1), .ref (ad 6), .ref (ad 48), .int (nI rd), .int (bI fig), .int (bI uns), .int (nI came), .int mis, .int lost, .int bel])) (hn : n ≤ 120) (hT : ∀ j, T j < 32) (hr48 : CRow k ad g 48 120 n (fun j => nI (T j))) (hs0 : s0 < n) : mCi k l yX3_servesBehind wsX3_servesBehind { frames := 2, cells := 0, slots := 0, locals := 42 } ad N g sz [.ref (ad 0), .int (nI s0)] (fun r g1 => r = bI (sv uns T (n - (s0 + 1)) (s0 + 1)) ∧ g1 = g) := by
  refine mOf (Qc := fun z9 => va_Qi (fun r g1 => r = bI (sv uns T (n - (s0 + 1)) (s0 + 1)) ∧ g1 = g) (mB k ad N) (mA ad N z9)) (cc := cX3_servesBehind) (maxL := 4) (ret := (some .boolean)) (by decide) rfl (Nat.le_of_ble_eq_true rfl) ?_
  intro p e s m below meth c hx hb hr hts hown hlocks hml hin hE hI ls hl
  have hl : lv_has ls 4 [(0, .ref (ad 0)), (1, .int (nI s0))] := hl
  have h48 := hr48.1
  have h49 := hr48.2
  refine lv_iload_n hx hb dX3_servesBehind_0 rfl (lv_at hl 1 rfl) ?_
  refine lv_iconst (v := nI 1) hx hb dX3_servesBehind_1 (by decide) ?_
  refine m_iaddN hx hb dX3_servesBehind_2 ?_
  refine lv_istore_n (lv' := [(2, .int (nI (s0 + 1))), (0, .ref (ad 0)), (1, .int (nI s0))]) hx hb dX3_servesBehind_3 rfl hl (by decide) rfl (fun ls hl => ?_)
  refine m_loop (σ := Nat) (fun i => i ≤ n ∧ sv uns T (n - i) i = sv uns T (n - (s0 + 1)) (s0 + 1)) (fun i => n - i) (fun i => g) (fun i => [(0, .ref (ad 0)), (1, .int (nI s0)), (2, .int (nI i))]) (nL := 4) (s0 + 1) ⟨by omega, rfl⟩ hI (lv_sub hl [1, 2, 0] rfl) ?_
  rintro i ⟨hin1, hsv⟩ ih4 H locs ls hI hl
  have hI : mI k ad N g (mA ad N s.heap.size) s H locs := hI
  have hl : lv_has ls 4 [(0, .ref (ad 0)), (1, .int (nI s0)), (2, .int (nI i))] := hl
  refine lv_iload_n hx hb dX3_servesBehind_4 rfl (lv_at hl 2 rfl) ?_
  refine lv_aload_n hx hb dX3_servesBehind_5 rfl (lv_at hl 0 rfl) ?_
  refine m_get (ci := 3) (C := RX3) (T := TX3) (N' := 10) hx hb hts (by decide +kernel) hown hE hI 0 (by omega) h0 rfl 2 (by decide) (hts (.fieldLink RX3 28 "TapePrinter" "strip" "LTapePrinter$Row;") (by decide +kernel)) rfl dX3_servesBehind_6 ?_
  refine m_callVi (As := []) (rest := [.int (nI i)]) ⟨hx, hb, hml, hown, hts⟩ hE hI (c_X0_size k l ad N g _ 48 120 n (fun j => nI (T j))  (by omega) (by omega) (by omega) ⟨h48, h49⟩) (cwV 0 hts gX3_servesBehind_X0_size rfl rfl rfl (by decide +kernel) ⟨Nat.le_of_ble_eq_true rfl, Nat.le_of_ble_eq_true rfl⟩) (i := 48) (by omega) h48 rfl rfl hl.1 rfl (Nat.le_of_ble_eq_true rfl) dX3_servesBehind_9 ⟨Nat.le_of_ble_eq_true rfl, Nat.le_of_ble_eq_true rfl⟩ (m_deti (fun H locs hI => ?_))
  refine m_cgeN (tgt := 55) hx hb (by omega) (by omega) dX3_servesBehind_12 (by decide) (fun c_12 => ?_) (fun c_12 => ?_)
  · refine lv_iconst (v := nI 0) hx hb dX3_servesBehind_55 (by decide) ?_
    refine m_top (y := bI false) (by decide) ?_
    exact m_zret (v := false) hx hb hr hlocks hI (⟨by rw [← hsv, show n - i = 0 by omega] <;> rfl, rfl⟩) dX3_servesBehind_56
  · have hsv1 : sv uns T (n - i) i = if dep (T i) then true else if decide (T i = 27) || stl uns (T i) then false else sv uns T (n - (i + 1)) (i + 1) := by rw [show n - i = (n - (i + 1)) + 1 by omega] <;> rfl
    refine lv_aload_n hx hb dX3_servesBehind_15 rfl (lv_at hl 0 rfl) ?_
    refine m_get (ci := 3) (C := RX3) (T := TX3) (N' := 10) hx hb hts (by decide +kernel) hown hE hI 0 (by omega) h0 rfl 2 (by decide) (hts (.fieldLink RX3 28 "TapePrinter" "strip" "LTapePrinter$Row;") (by decide +kernel)) rfl dX3_servesBehind_16 ?_
    refine lv_iload_n hx hb dX3_servesBehind_19 rfl (lv_at hl 2 rfl) ?_
    refine m_callVi (As := [.int (nI i)]) (rest := []) ⟨hx, hb, hml, hown, hts⟩ hE hI (c_X0_at k l ad N g _ 48 120 n (fun j => nI (T j)) i (by omega) (by omega) (by omega) ⟨h48, h49⟩ (by omega)) (cwV 1 hts gX3_servesBehind_X0_at rfl rfl rfl (by decide +kernel) ⟨Nat.le_of_ble_eq_true rfl, Nat.le_of_ble_eq_true rfl⟩) (i := 48) (by omega) h48 rfl rfl hl.1 rfl (Nat.le_of_ble_eq_true rfl) dX3_servesBehind_20 ⟨Nat.le_of_ble_eq_true rfl, Nat.le_of_ble_eq_true rfl⟩ (m_deti (fun H locs hI => ?_))
    refine m_top (show (fun j => nI (T j)) i = nI (T i) from rfl) ?_
    have ht_1 := hT i
    refine lv_istore_n (lv' := [(3, .int (nI (T i))), (0, .ref (ad 0)), (1, .int (nI s0)), (2, .int (nI i))]) hx hb dX3_servesBehind_23 rfl hl (by decide) rfl (fun ls hl => ?_)
    refine lv_iload_n hx hb dX3_servesBehind_24 rfl (lv_at hl 0 rfl) ?_
    refine m_callSi (As := [.int (nI (T i))]) (rest := []) ⟨hx, hb, hml, hown, hts⟩ hE hI (c_X3_dependsOnShift k l ad N g _ (T i) (hT _)) (va_cwS 1 hts gX3_servesBehind_X3_dependsOnShift rfl rfl rfl (by decide +kernel) ⟨Nat.le_of_ble_eq_true rfl, Nat.le_of_ble_eq_true rfl⟩) rfl hl.1 rfl (Nat.le_of_ble_eq_true rfl) dX3_servesBehind_25 ⟨Nat.le_of_ble_eq_true rfl, Nat.le_of_ble_eq_true rfl⟩ (m_deti (fun H locs hI => ?_))
    refine m_zeqB (tgt := 33) hx hb dX3_servesBehind_28 (by decide) (fun c_28 => ?_) (fun c_28 => ?_)
    · refine lv_iload_n hx hb dX3_servesBehind_33 rfl (lv_at hl 0 rfl) ?_
      refine lv_bipush (v := nI 27) hx hb dX3_servesBehind_34 (by decide) ?_
      refine m_ceqN (tgt := 47) hx hb (by omega) (by omega) dX3_servesBehind_36 (by decide) (fun c_36 => ?_) (fun c_36 => ?_)
      · refine lv_iconst (v := nI 0) hx hb dX3_servesBehind_47 (by decide) ?_
        refine m_top (y := bI false) (by decide) ?_
        exact m_zret (v := false) hx hb hr hlocks hI (⟨by rw [← hsv, hsv1, c_28, c_36] <;> rfl, rfl⟩) dX3_servesBehind_48
      · refine lv_aload_n hx hb dX3_servesBehind_39 rfl (lv_at hl 1 rfl) ?_
        refine lv_iload_n hx hb dX3_servesBehind_40 rfl (lv_at hl 0 rfl) ?_
        refine m_callVi (As := [.int (nI (T i))]) (rest := []) ⟨hx, hb, hml, hown, hts⟩ hE hI (c_X3_shiftsToLetters k l ad N g _ rd fig uns came mis lost bel  (T i) (by omega) h0  (hT _)) (cwV 1 hts gX3_servesBehind_X3_shiftsToLetters rfl rfl rfl (by decide +kernel) ⟨Nat.le_of_ble_eq_true rfl, Nat.le_of_ble_eq_true rfl⟩) (i := 0) (by omega) h0 rfl rfl hl.1 rfl (Nat.le_of_ble_eq_true rfl) dX3_servesBehind_41 ⟨Nat.le_of_ble_eq_true rfl, Nat.le_of_ble_eq_true rfl⟩ (m_deti (fun H locs hI => ?_))
        refine m_zeqB (tgt := 49) hx hb dX3_servesBehind_44 (by decide) (fun c_44 => ?_) (fun c_44 => ?_)
        · refine lv_iinc (v := nI (i + 1)) (lv' := [(2, .int (nI (i + 1))), (3, .int (nI (T i))), (0, .ref (ad 0)), (1, .int (nI s0))]) hx hb dX3_servesBehind_49 hl (k := 3) rfl (nI_add i 1) (by decide) rfl (fun ls hl => ?_)
          refine lv_goto (tgt := 4) hx hb dX3_servesBehind_52 (by decide) ?_
          exact ih4 (i + 1) ⟨by omega, by rw [← hsv, hsv1, c_28, decide_eq_false c_36, c_44] <;> rfl⟩ (show n - (i + 1) < n - i by omega) _ _ _ hI (lv_sub hl [2, 3, 0] rfl)
        · refine lv_iconst (v := nI 0) hx hb dX3_servesBehind_47 (by decide) ?_
          refine m_top (y := bI false) (by decide) ?_
          exact m_zret (v := false) hx hb hr hlocks hI (⟨by rw [← hsv, hsv1, c_28, c_44, Bool.or_true] <;> rfl, rfl⟩) dX3_servesBehind_48
    · refine lv_iconst (v := nI 1) hx hb dX3_servesBehind_31 (by decide) ?_
      refine m_top (y := bI true) (by decide) ?_
      exact m_zret (v := true) hx hb hr hlocks hI (⟨by rw [← hsv, hsv1, c_28] <;> rfl, rfl⟩) dX3_servesBehind_32
set_option maxHeartbeats 4000000 in
set_option maxRecDepth 100000 in
theorem c_X3_idle (k : mC) (l : Launch) (ad : Nat → Nat) (N : Nat) (g : Nat → va_E) (sz : Nat) (rd : Nat) (fig uns : Bool) (came : Nat) (mis lost bel : Int32) (n : Nat) (T : Nat → Nat)  (hN : 50 ≤ N) (h0 : g 0 = .inr (3, [.ref (ad 1), .ref (ad 6), .ref (ad 48), .int (nI rd), .int (bI fig), .int (bI uns), .int (nI came), .int mis, .int lost, .int bel])) (hn : n ≤ 120) (hT : ∀ j, T j < 32) (hr48 : CRow k ad g 48 120 n (fun j => nI (T j))) : mCi k l yX3_idle wsX3_idle { frames := 3, cells := 0, slots := 0, locals := 65 } ad N g sz [.ref (ad 0)] (fun r g1 => r = nI (idl uns T n n) ∧ g1 = g) := by
  refine mOf (Qc := fun z9 => va_Qi (fun r g1 => r = nI (idl uns T n n) ∧ g1 = g) (mB k ad N) (mA ad N z9)) (cc := cX3_idle) (maxL := 6) (ret := (some .int)) (by decide) rfl (Nat.le_of_ble_eq_true rfl) ?_
  intro p e s m below meth c hx hb hr hts hown hlocks hml hin hE hI ls hl
  have hl : lv_has ls 6 [(0, .ref (ad 0))] := hl
  have h48 := hr48.1
  have h49 := hr48.2
  refine lv_iconst (v := nI 0) hx hb dX3_idle_0 (by decide) ?_
  refine lv_istore_n (lv' := [(1, .int (nI 0)), (0, .ref (ad 0))]) hx hb dX3_idle_1 rfl hl (by decide) rfl (fun ls hl => ?_)
  refine lv_iconst (v := nI 0) hx hb dX3_idle_2 (by decide) ?_
  refine m_top (show nI 0 = bI (fa uns T 0) from rfl) ?_
  refine lv_istore_n (lv' := [(2, .int (bI (fa uns T 0))), (1, .int (nI 0)), (0, .ref (ad 0))]) hx hb dX3_idle_3 rfl hl (by decide) rfl (fun ls hl => ?_)
  refine lv_iconst (v := nI 0) hx hb dX3_idle_4 (by decide) ?_
  refine lv_istore_n (lv' := [(3, .int (nI 0)), (2, .int (bI (fa uns T 0))), (1, .int (nI 0)), (0, .ref (ad 0))]) hx hb dX3_idle_5 rfl hl (by decide) rfl (fun ls hl => ?_)
  refine m_loop (σ := Nat) (fun i => i ≤ n) (fun i => n - i) (fun i => g) (fun i => [(0, .ref (ad 0)), (1, .int (nI (idl uns T n i))), (2, .int (bI (fa uns T i))), (3, .int (nI i))]) (nL := 6) 0 (Nat.zero_le _) hI (lv_sub hl [3, 2, 1, 0] rfl) ?_
  rintro i hi0 ih6 H locs ls hI hl
  have hI : mI k ad N g (mA ad N s.heap.size) s H locs := hI
  have hl : lv_has ls 6 [(0, .ref (ad 0)), (1, .int (nI (idl uns T n i))), (2, .int (bI (fa uns T i))), (3, .int (nI i))] := hl
  have hid := idl_le uns T n i
  refine lv_iload_n hx hb dX3_idle_6 rfl (lv_at hl 3 rfl) ?_
  refine lv_aload_n hx hb dX3_idle_7 rfl (lv_at hl 0 rfl) ?_
  refine m_get (ci := 3) (C := RX3) (T := TX3) (N' := 10) hx hb hts (by decide +kernel) hown hE hI 0 (by omega) h0 rfl 2 (by decide) (hts (.fieldLink RX3 28 "TapePrinter" "strip" "LTapePrinter$Row;") (by decide +kernel)) rfl dX3_idle_8 ?_
  refine m_callVi (As := []) (rest := [.int (nI i)]) ⟨hx, hb, hml, hown, hts⟩ hE hI (c_X0_size k l ad N g _ 48 120 n (fun j => nI (T j))  (by omega) (by omega) (by omega) ⟨h48, h49⟩) (cwV 0 hts gX3_idle_X0_size rfl rfl rfl (by decide +kernel) ⟨Nat.le_of_ble_eq_true rfl, Nat.le_of_ble_eq_true rfl⟩) (i := 48) (by omega) h48 rfl rfl hl.1 rfl (Nat.le_of_ble_eq_true rfl) dX3_idle_11 ⟨Nat.le_of_ble_eq_true rfl, Nat.le_of_ble_eq_true rfl⟩ (m_deti (fun H locs hI => ?_))
  refine m_cgeN (tgt := 70) hx hb (by omega) (by omega) dX3_idle_14 (by decide) (fun c_14 => ?_) (fun c_14 => ?_)
  · refine lv_iload_n hx hb dX3_idle_70 rfl (lv_at hl 1 rfl) ?_
    exact m_iret hx hb hr hlocks hI (⟨by rw [show i = n by omega], rfl⟩) dX3_idle_71
  · refine lv_aload_n hx hb dX3_idle_17 rfl (lv_at hl 0 rfl) ?_
    refine m_get (ci := 3) (C := RX3) (T := TX3) (N' := 10) hx hb hts (by decide +kernel) hown hE hI 0 (by omega) h0 rfl 2 (by decide) (hts (.fieldLink RX3 28 "TapePrinter" "strip" "LTapePrinter$Row;") (by decide +kernel)) rfl dX3_idle_18 ?_
    refine lv_iload_n hx hb dX3_idle_21 rfl (lv_at hl 3 rfl) ?_
    refine m_callVi (As := [.int (nI i)]) (rest := []) ⟨hx, hb, hml, hown, hts⟩ hE hI (c_X0_at k l ad N g _ 48 120 n (fun j => nI (T j)) i (by omega) (by omega) (by omega) ⟨h48, h49⟩ (by omega)) (cwV 1 hts gX3_idle_X0_at rfl rfl rfl (by decide +kernel) ⟨Nat.le_of_ble_eq_true rfl, Nat.le_of_ble_eq_true rfl⟩) (i := 48) (by omega) h48 rfl rfl hl.1 rfl (Nat.le_of_ble_eq_true rfl) dX3_idle_22 ⟨Nat.le_of_ble_eq_true rfl, Nat.le_of_ble_eq_true rfl⟩ (m_deti (fun H locs hI => ?_))
    refine m_top (show (fun j => nI (T j)) i = nI (T i) from rfl) ?_
    have ht_1 := hT i
    refine lv_istore (lv' := [(4, .int (nI (T i))), (0, .ref (ad 0)), (1, .int (nI (idl uns T n i))), (2, .int (bI (fa uns T i))), (3, .int (nI i))]) hx hb dX3_idle_25 hl (by decide) rfl (fun ls hl => ?_)
    refine lv_aload_n hx hb dX3_idle_27 rfl (lv_at hl 1 rfl) ?_
    refine lv_iload hx hb dX3_idle_28 (lv_at hl 0 rfl) ?_
    refine lv_iload_n hx hb dX3_idle_30 rfl (lv_at hl 3 rfl) ?_
    refine m_callVi (As := [.int (nI (T i)), .int (bI (fa uns T i))]) (rest := []) ⟨hx, hb, hml, hown, hts⟩ hE hI (c_X3_figuresBehind k l ad N g _ rd fig uns came mis lost bel  (T i) (fa uns T i) (by omega) h0  (hT _)) (cwV 2 hts gX3_idle_X3_figuresBehind rfl rfl rfl (by decide +kernel) ⟨Nat.le_of_ble_eq_true rfl, Nat.le_of_ble_eq_true rfl⟩) (i := 0) (by omega) h0 rfl rfl hl.1 rfl (Nat.le_of_ble_eq_true rfl) dX3_idle_31 ⟨Nat.le_of_ble_eq_true rfl, Nat.le_of_ble_eq_true rfl⟩ (m_deti (fun H locs hI => ?_))
    refine lv_istore (lv' := [(5, .int (bI (fb uns (T i) (fa uns T i)))), (4, .int (nI (T i))), (0, .ref (ad 0)), (1, .int (nI (idl uns T n i))), (2, .int (bI (fa uns T i))), (3, .int (nI i))]) hx hb dX3_idle_34 hl (by decide) rfl (fun ls hl => ?_)
    refine lv_iload hx hb dX3_idle_36 (lv_at hl 1 rfl) ?_
    refine m_callSi (As := [.int (nI (T i))]) (rest := []) ⟨hx, hb, hml, hown, hts⟩ hE hI (c_X3_isShift k l ad N g _ (T i) (hT _)) (va_cwS 1 hts gX3_idle_X3_isShift rfl rfl rfl (by decide +kernel) ⟨Nat.le_of_ble_eq_true rfl, Nat.le_of_ble_eq_true rfl⟩) rfl hl.1 rfl (Nat.le_of_ble_eq_true rfl) dX3_idle_38 ⟨Nat.le_of_ble_eq_true rfl, Nat.le_of_ble_eq_true rfl⟩ (m_deti (fun H locs hI => ?_))
    refine m_zeqB (tgt := 61) hx hb dX3_idle_41 (by decide) (fun c_41 => ?_) (fun c_41 => ?_)
    · have hidb : idB uns T n i = false := by unfold idB; simp only [c_41, Bool.false_and]
      have hidn : idl uns T n (i + 1) = idl uns T n i := by show (if idB uns T n i then idl uns T n i + 1 else idl uns T n i) = _; rw [hidb] <;> rfl
      have hl : lv_has ls 6 [(5, .int (bI (fb uns (T i) (fa uns T i)))), (4, .int (nI (T i))), (0, .ref (ad 0)), (1, .int (nI (idl uns T n (i + 1)))), (2, .int (bI (fa uns T i))), (3, .int (nI i))] := by rw [hidn]; exact hl
      refine lv_iload hx hb dX3_idle_61 (lv_at hl 0 rfl) ?_
      refine lv_istore_n (lv' := [(2, .int (bI (fb uns (T i) (fa uns T i)))), (5, .int (bI (fb uns (T i) (fa uns T i)))), (4, .int (nI (T i))), (0, .ref (ad 0)), (1, .int (nI (idl uns T n (i + 1)))), (3, .int (nI i))]) hx hb dX3_idle_63 rfl hl (by decide) rfl (fun ls hl => ?_)
      refine lv_iinc (v := nI (i + 1)) (lv' := [(3, .int (nI (i + 1))), (2, .int (bI (fb uns (T i) (fa uns T i)))), (5, .int (bI (fb uns (T i) (fa uns T i)))), (4, .int (nI (T i))), (0, .ref (ad 0)), (1, .int (nI (idl uns T n (i + 1))))]) hx hb dX3_idle_64 hl (k := 5) rfl (nI_add i 1) (by decide) rfl (fun ls hl => ?_)
      refine lv_goto (tgt := 6) hx hb dX3_idle_67 (by decide) ?_
      exact ih6 (i + 1) (show i + 1 ≤ n by omega) (show n - (i + 1) < n - i by omega) _ _ _ hI (lv_sub hl [4, 5, 1, 0] rfl)
    · refine lv_iload hx hb dX3_idle_44 (lv_at hl 0 rfl) ?_
      refine lv_iload_n hx hb dX3_idle_46 rfl (lv_at hl 4 rfl) ?_
      refine m_ceqB (tgt := 58) hx hb dX3_idle_47 (by decide) (fun c_47 => ?_) (fun c_47 => ?_)
      · refine lv_iinc (v := nI ((idl uns T n i) + 1)) (lv' := [(1, .int (nI ((idl uns T n i) + 1))), (5, .int (bI (fb uns (T i) (fa uns T i)))), (4, .int (nI (T i))), (0, .ref (ad 0)), (2, .int (bI (fa uns T i))), (3, .int (nI i))]) hx hb dX3_idle_58 hl (k := 3) rfl (nI_add (idl uns T n i) 1) (by decide) rfl (fun ls hl => ?_)
        have hidb : idB uns T n i = true := by unfold idB; rw [c_41, decide_eq_true c_47]; rfl
        have hidn : idl uns T n (i + 1) = (idl uns T n i) + 1 := by show (if idB uns T n i then idl uns T n i + 1 else idl uns T n i) = _; rw [hidb] <;> rfl
        have hl : lv_has ls 6 [(1, .int (nI (idl uns T n (i + 1)))), (5, .int (bI (fb uns (T i) (fa uns T i)))), (4, .int (nI (T i))), (0, .ref (ad 0)), (2, .int (bI (fa uns T i))), (3, .int (nI i))] := by rw [hidn]; exact hl
        refine lv_iload hx hb dX3_idle_61 (lv_at hl 1 rfl) ?_
        refine lv_istore_n (lv' := [(2, .int (bI (fb uns (T i) (fa uns T i)))), (1, .int (nI (idl uns T n (i + 1)))), (5, .int (bI (fb uns (T i) (fa uns T i)))), (4, .int (nI (T i))), (0, .ref (ad 0)), (3, .int (nI i))]) hx hb dX3_idle_63 rfl hl (by decide) rfl (fun ls hl => ?_)
        refine lv_iinc (v := nI (i + 1)) (lv' := [(3, .int (nI (i + 1))), (2, .int (bI (fb uns (T i) (fa uns T i)))), (1, .int (nI (idl uns T n (i + 1)))), (5, .int (bI (fb uns (T i) (fa uns T i)))), (4, .int (nI (T i))), (0, .ref (ad 0))]) hx hb dX3_idle_64 hl (k := 5) rfl (nI_add i 1) (by decide) rfl (fun ls hl => ?_)
        refine lv_goto (tgt := 6) hx hb dX3_idle_67 (by decide) ?_
        exact ih6 (i + 1) (show i + 1 ≤ n by omega) (show n - (i + 1) < n - i by omega) _ _ _ hI (lv_sub hl [5, 2, 1, 0] rfl)
      · refine lv_aload_n hx hb dX3_idle_50 rfl (lv_at hl 2 rfl) ?_
        refine lv_iload_n hx hb dX3_idle_51 rfl (lv_at hl 5 rfl) ?_
        refine m_callVi (As := [.int (nI i)]) (rest := []) ⟨hx, hb, hml, hown, hts⟩ hE hI (c_X3_servesBehind k l ad N g _ rd fig uns came mis lost bel n T i (by omega) h0 (by omega) hT ⟨h48, h49⟩ (by omega)) (cwV 1 hts gX3_idle_X3_servesBehind rfl rfl rfl (by decide +kernel) ⟨Nat.le_of_ble_eq_true rfl, Nat.le_of_ble_eq_true rfl⟩) (i := 0) (by omega) h0 rfl rfl hl.1 rfl (Nat.le_of_ble_eq_true rfl) dX3_idle_52 ⟨Nat.le_of_ble_eq_true rfl, Nat.le_of_ble_eq_true rfl⟩ (m_deti (fun H locs hI => ?_))
        refine m_zneB (tgt := 61) hx hb dX3_idle_55 (by decide) (fun c_55 => ?_) (fun c_55 => ?_)
        · have hidb : idB uns T n i = false := by unfold idB; rw [c_41, c_55, decide_eq_false c_47]; rfl
          have hidn : idl uns T n (i + 1) = idl uns T n i := by show (if idB uns T n i then idl uns T n i + 1 else idl uns T n i) = _; rw [hidb] <;> rfl
          have hl : lv_has ls 6 [(5, .int (bI (fb uns (T i) (fa uns T i)))), (4, .int (nI (T i))), (0, .ref (ad 0)), (1, .int (nI (idl uns T n (i + 1)))), (2, .int (bI (fa uns T i))), (3, .int (nI i))] := by rw [hidn]; exact hl
          refine lv_iload hx hb dX3_idle_61 (lv_at hl 0 rfl) ?_
          refine lv_istore_n (lv' := [(2, .int (bI (fb uns (T i) (fa uns T i)))), (5, .int (bI (fb uns (T i) (fa uns T i)))), (4, .int (nI (T i))), (0, .ref (ad 0)), (1, .int (nI (idl uns T n (i + 1)))), (3, .int (nI i))]) hx hb dX3_idle_63 rfl hl (by decide) rfl (fun ls hl => ?_)
          refine lv_iinc (v := nI (i + 1)) (lv' := [(3, .int (nI (i + 1))), (2, .int (bI (fb uns (T i) (fa uns T i)))), (5, .int (bI (fb uns (T i) (fa uns T i)))), (4, .int (nI (T i))), (0, .ref (ad 0)), (1, .int (nI (idl uns T n (i + 1))))]) hx hb dX3_idle_64 hl (k := 5) rfl (nI_add i 1) (by decide) rfl (fun ls hl => ?_)
          refine lv_goto (tgt := 6) hx hb dX3_idle_67 (by decide) ?_
          exact ih6 (i + 1) (show i + 1 ≤ n by omega) (show n - (i + 1) < n - i by omega) _ _ _ hI (lv_sub hl [4, 5, 1, 0] rfl)
        · refine lv_iinc (v := nI ((idl uns T n i) + 1)) (lv' := [(1, .int (nI ((idl uns T n i) + 1))), (5, .int (bI (fb uns (T i) (fa uns T i)))), (4, .int (nI (T i))), (0, .ref (ad 0)), (2, .int (bI (fa uns T i))), (3, .int (nI i))]) hx hb dX3_idle_58 hl (k := 3) rfl (nI_add (idl uns T n i) 1) (by decide) rfl (fun ls hl => ?_)
          have hidb : idB uns T n i = true := by unfold idB; rw [c_41, c_55]; exact (Bool.true_and _).trans (Bool.or_true _)
          have hidn : idl uns T n (i + 1) = (idl uns T n i) + 1 := by show (if idB uns T n i then idl uns T n i + 1 else idl uns T n i) = _; rw [hidb] <;> rfl
          have hl : lv_has ls 6 [(1, .int (nI (idl uns T n (i + 1)))), (5, .int (bI (fb uns (T i) (fa uns T i)))), (4, .int (nI (T i))), (0, .ref (ad 0)), (2, .int (bI (fa uns T i))), (3, .int (nI i))] := by rw [hidn]; exact hl
          refine lv_iload hx hb dX3_idle_61 (lv_at hl 1 rfl) ?_
          refine lv_istore_n (lv' := [(2, .int (bI (fb uns (T i) (fa uns T i)))), (1, .int (nI (idl uns T n (i + 1)))), (5, .int (bI (fb uns (T i) (fa uns T i)))), (4, .int (nI (T i))), (0, .ref (ad 0)), (3, .int (nI i))]) hx hb dX3_idle_63 rfl hl (by decide) rfl (fun ls hl => ?_)
          refine lv_iinc (v := nI (i + 1)) (lv' := [(3, .int (nI (i + 1))), (2, .int (bI (fb uns (T i) (fa uns T i)))), (1, .int (nI (idl uns T n (i + 1)))), (5, .int (bI (fb uns (T i) (fa uns T i)))), (4, .int (nI (T i))), (0, .ref (ad 0))]) hx hb dX3_idle_64 hl (k := 5) rfl (nI_add i 1) (by decide) rfl (fun ls hl => ?_)
          refine lv_goto (tgt := 6) hx hb dX3_idle_67 (by decide) ?_
          exact ih6 (i + 1) (show i + 1 ≤ n by omega) (show n - (i + 1) < n - i by omega) _ _ _ hI (lv_sub hl [5, 2, 1, 0] rfl)
end
section
/-! The layer of what throws: contracts that return, or throw and leave the world as it was. -/
section MX
abbrev xnm : List String := ["java/lang/RuntimeException", "java/lang/Exception"]
theorem x_nm : ∀ n ∈ xnm, Bundle.fit n = true := by decide +kernel
theorem x_fit36 : Bundle.fit "java/lang/IndexOutOfBoundsException" = true := by decide +kernel
theorem x_fit67 : Bundle.fit "java/lang/IllegalArgumentException" = true := by decide +kernel
theorem x_fit99 : Bundle.fit "java/lang/IllegalStateException" = true := by decide +kernel
def xbw (X : String) : List Cond := .castable X X :: mNd.map .declares
theorem x_bw {args : Array Value} {s : State} (h : mNw s) {X : String} (hX : X ∈ mNx) : ∀ w ∈ xbw X, w.before args s = true := by
  intro w hw
  rcases List.mem_cons.mp hw with rfl | hw
  · exact va_Nw.use rfl (h.2.1 X hX)
  · obtain ⟨x, hx, rfl⟩ := List.mem_map.mp hw
    exact va_Nw.use rfl (h.1 x hx)
theorem x_bad36 : ∀ w ∈ (vx_atS RX3 40 "java/lang/IndexOutOfBoundsException" xnm).filter (fun w => !goodWord w), w ∈ xbw "java/lang/IndexOutOfBoundsException" := by decide +kernel
theorem x_bad67 : ∀ w ∈ (vx_atS RX3 71 "java/lang/IllegalArgumentException" xnm).filter (fun w => !goodWord w), w ∈ xbw "java/lang/IllegalArgumentException" := by decide +kernel
theorem x_bad99 : ∀ w ∈ (vx_atS RX3 103 "java/lang/IllegalStateException" xnm).filter (fun w => !goodWord w), w ∈ xbw "java/lang/IllegalStateException" := by decide +kernel
theorem x_hat36 {args : Array Value} {s : State} (hn : mNw s) (h : ∀ w ∈ (vx_atS RX3 40 "java/lang/IndexOutOfBoundsException" xnm).filter goodWord, w.before args s = true) : ∀ w ∈ vx_atS RX3 40 "java/lang/IndexOutOfBoundsException" xnm, w.before args s = true := vx_hat h x_bad36 (x_bw hn (by decide))
theorem x_hat67 {args : Array Value} {s : State} (hn : mNw s) (h : ∀ w ∈ (vx_atS RX3 71 "java/lang/IllegalArgumentException" xnm).filter goodWord, w.before args s = true) : ∀ w ∈ vx_atS RX3 71 "java/lang/IllegalArgumentException" xnm, w.before args s = true := vx_hat h x_bad67 (x_bw hn (by decide))
theorem x_hat99 {args : Array Value} {s : State} (hn : mNw s) (h : ∀ w ∈ (vx_atS RX3 103 "java/lang/IllegalStateException" xnm).filter goodWord, w.before args s = true) : ∀ w ∈ vx_atS RX3 103 "java/lang/IllegalStateException" xnm, w.before args s = true := vx_hat h x_bad99 (x_bw hn (by decide))
theorem x_good36 : ∀ w ∈ Cond.classLink RX3 36 "java/lang/IndexOutOfBoundsException" :: Cond.initialized "java/lang/IndexOutOfBoundsException" :: vx_atS RX3 40 "java/lang/IndexOutOfBoundsException" xnm, vx_ot w = true := by decide +kernel
theorem x_good67 : ∀ w ∈ Cond.classLink RX3 67 "java/lang/IllegalArgumentException" :: Cond.initialized "java/lang/IllegalArgumentException" :: vx_atS RX3 71 "java/lang/IllegalArgumentException" xnm, vx_ot w = true := by decide +kernel
theorem x_good99 : ∀ w ∈ Cond.classLink RX3 99 "java/lang/IllegalStateException" :: Cond.initialized "java/lang/IllegalStateException" :: vx_atS RX3 103 "java/lang/IllegalStateException" xnm, vx_ot w = true := by decide +kernel
/-- what is thrown: a class of which xp holds; the world is g -/
def mX (xp : String → Prop) (k : mC) (ad : Nat → Nat) (N : Nat) (g : Nat → va_E) (sz : Nat) : String → State → State → Prop :=
  vx_X (fun _ : Unit => True) (fun E _ t => xp E ∧ mB k ad N g t) (mA ad N sz)
def mXi (k : mC) (l : Launch) (y : MethodName) (ws : List Cond) (rm : Room) (ad : Nat → Nat) (N : Nat) (g : Nat → va_E) (sz : Nat) (av : List Value) (post : Int32 → (Nat → va_E) → Prop) (xp : String → Prop) : Prop :=
  vx_Met l y ws rm (mPc k ad N g sz av) (va_Qi post (mB k ad N) (mA ad N sz)) (mX xp k ad N g sz) 1 6 (mA ad N sz)
theorem mOfX {k : mC} {l : Launch} {y : MethodName} {ws ws' : List Cond} {rm : Room} {ad : Nat → Nat} {N : Nat} {g : Nat → va_E} {sz : Nat} {av : List Value} {cc : ByteArray} {maxL : Nat} {ret : Option FieldType} {post : Int32 → (Nat → va_E) → Prop} {xp : String → Prop}
    (hy : plainName y.cls = true) (hw : ws = Cond.code y cc maxL ret :: ws') (hav : (lg_sl av).length ≤ maxL)
    (body : ∀ (p : Program) (e : Env) (s : State) (m : MethodId) (below : List Frame) (meth : Method) (c : Code), p.tables.exec = Jvm.exec → c.code = cc → meth.sig.returnType = ret → (∀ w ∈ ws, w.before av.toArray s = true) → s.vm.findClass y.cls = some m.cls → meth.locks = false → c.maxLocals = maxL → (∀ x ∈ c.exceptionTable.toList, False) →
      mE k ad N (mA ad N s.heap.size) s → mI k ad N g (mA ad N s.heap.size) s s.heap [] → ∀ ls : Array Slot, lv_has ls maxL (lv_args 0 av) →
      W p l e rm s m av.toArray below meth c s.heap [] 0 0 (vx_MQ below (va_Qi post (mB k ad N) (mA ad N s.heap.size)) (mX xp k ad N g s.heap.size) av.toArray s 1 6 (mA ad N s.heap.size)) (F0 m 0 ls [])) :
    mXi k l y ws rm ad N g sz av post xp := by
  refine vx_ofW (cc := cc) (maxL := maxL) (ret := ret) hy hw ?_
  intro p e s m args below meth c s₁ B hml ht hv
  obtain ⟨rfl, hsz, hK, hP, hJ⟩ := hv
  subst hsz
  rw [lg_entry_eq]
  exact body p e s m below meth c B.exec B.bytes B.returns (atoms_spec (ws := ws) B.pre) (findClass_of_methodNamed B.named) B.notSynchronized hml ht ⟨hK, hJ, fun i hi => Or.inl ⟨i, hi, rfl⟩, fun q hq => Or.inr hq⟩ ⟨hP, va_S.rf⟩ _ (lv_entry av hav)
/-- a method with handlers of its own, that always returns -/
theorem mOfH {k : mC} {l : Launch} {y : MethodName} {ws ws' : List Cond} {rm : Room} {ad : Nat → Nat} {N : Nat} {g : Nat → va_E} {sz : Nat} {av : List Value} {cc : ByteArray} {maxL mc ms : Nat} {ret : Option FieldType} {hh : List (Nat × Nat × Nat × Nat)} {Qc : Nat → Array Value → State → Outcome → State → Prop}
    (hy : plainName y.cls = true) (hw : ws = Cond.codeWith y cc maxL ret hh :: ws') (hav : (lg_sl av).length ≤ maxL)
    (body : ∀ (p : Program) (e : Env) (s : State) (m : MethodId) (below : List Frame) (meth : Method) (c : Code), p.tables.exec = Jvm.exec → c.code = cc → meth.sig.returnType = ret → (∀ w ∈ ws, w.before av.toArray s = true) → s.vm.findClass y.cls = some m.cls → meth.locks = false → c.maxLocals = maxL → c.exceptionTable.toList = tableOf hh →
      mE k ad N (mA ad N s.heap.size) s → mI k ad N g (mA ad N s.heap.size) s s.heap [] → ∀ ls : Array Slot, lv_has ls maxL (lv_args 0 av) →
      W p l e rm s m av.toArray below meth c s.heap [] 0 0 (MQ below (Qc s.heap.size) av.toArray s mc ms (mA ad N s.heap.size)) (F0 m 0 ls [])) :
    Met l y ws rm (mPc k ad N g sz av) (Qc sz) mc ms (mA ad N sz) := by
  refine MetFree.of_bodyS (code := cc) (maxLocals := maxL) (ret := ret) hy ?_ ?_
  · intro args s m h hn
    obtain ⟨m9, meth, c, hn9, h1, h2, h3, h4, -, h5, h6, -⟩ := Cond.codeWith_spec (atoms_spec (ws := ws) h _ (by rw [hw]; exact List.mem_cons_self))
    cases hn.symm.trans hn9
    exact ⟨meth, c, h1, h2, h3, h4, h5, h6⟩
  · intro p e s m args below meth c s₁ B hml hv _
    obtain ⟨rfl, hsz, hK, hP, hJ⟩ := hv
    subst hsz
    have hh0 : s₁.heap = s.heap := by rw [B.state]; rfl
    have hts := atoms_spec (ws := ws) B.pre
    have htab := vx_table (x := y) B (hts _ (by rw [hw]; exact List.mem_cons_self))
    have K := body p e s m below meth c B.exec B.bytes B.returns hts (findClass_of_methodNamed B.named) B.notSynchronized hml htab ⟨hK, hJ, fun i hi => Or.inl ⟨i, hi, rfl⟩, fun q hq => Or.inr hq⟩ ⟨hP, va_S.rf⟩ _ (lv_entry av hav)
    rw [← lg_entry_eq] at K
    obtain ⟨t, a1, o, b1, b2, b3⟩ := K s₁ hh0 (Stand.of_body B)
    exact ⟨t, o, a1, b1, b2, ⟨b3.1, b3.2⟩⟩
section MR
variable {p : Program} {l : Launch} {e : Env} {R : Room} {s : State} {m : MethodId} {args : Array Value} {below : List Frame} {meth : Method} {c : Code} {H : Heap} {locs : List Loc} {cells slots : Nat} {Q : State → Prop}
variable {cc : ByteArray} {pc : Nat} {ls : Array Slot} {rest : List Value} {k : mC} {ad : Nat → Nat} {N : Nat} {g : Nat → va_E} {A : Nat → Prop}
/-- new X(text), thrown out of the method -/
theorem m_throwS (hx : p.tables.exec = Jvm.exec) (hb : c.code = cc) (hst : l.stackTraces = false) (hown : s.vm.findClass RX3 = some m.cls) {cls text : String} {ik is ic : Nat} (hcls : Bundle.fit cls = true)
    (hk : (Cond.classLink RX3 ik cls).before args s = true) (hini : (Cond.initialized cls).before args s = true) (hat : ∀ w ∈ vx_atS RX3 ic cls xnm, w.before args s = true) (hgood : ∀ w ∈ Cond.classLink RX3 ik cls :: Cond.initialized cls :: vx_atS RX3 ic cls xnm, vx_ot w = true) (hmem : (is, text) ∈ mST)
    (hE : mE k ad N (mA ad N s.heap.size) s) (hI : mI k ad N g (mA ad N s.heap.size) s H locs) (hsize : ls.size = c.maxLocals)
    (d0 : decode cc pc = .ok (.new ik, 3)) (d3 : decode cc (pc + 3) = .ok (.dup, 1)) (d4 : decode cc (pc + 4) = .ok (.ldc is, 2)) (d6 : decode cc (pc + 6) = .ok (.invokespecial ic, 3)) (d9 : decode cc (pc + 9) = .ok (.athrow, 1))
    (htab : ∀ x ∈ c.exceptionTable.toList, False) (hlocks : meth.locks = false) (hRf : 6 ≤ R.frames ∧ 1 ≤ R.cells ∧ 6 ≤ R.slots) (hRl : 82 ≤ R.locals) {Qc : Array Value → State → Outcome → State → Prop} {xp : String → Prop} (hxp : xp cls) :
    W p l e R s m args below meth c H locs 0 0 (vx_MQ below Qc (mX xp k ad N g s.heap.size) args s 1 6 (mA ad N s.heap.size)) (F0 m pc ls []) := by
  obtain ⟨sa, hsa⟩ := hE.1.2.2.2.2.1 (is, text) hmem
  refine vx_throwS hx hb hst (names := xnm) hown hcls x_nm hk hini hsa hat hgood hE.1.2.2.2.1.1 hE.1.2.2.2.1.2 hI.2 hsize d0 d3 d4 d6 d9 (fun x hx => (htab x hx).elim) (by show 5 < R.frames; omega) (by show 0 + 82 ≤ R.locals; omega) (by omega) (by omega) hlocks ?_ hI.2.2.2 (Nat.le_refl _) (Nat.le_refl _)
  intro t ht hz hq
  refine ⟨(), trivial, ⟨hxp, ?_⟩, Nat.le_trans hI.2.1 hz, fun q h1 h2 => ?_⟩
  · exact hI.1.kept (fun i q hi => hq q.1 (hI.1 i q hi).lt)
  · rw [hq q (Nat.lt_of_lt_of_le h1 hI.2.1)]
    exact hI.2.2.1 q h1 h2
variable {y : MethodName} {bytes : ByteArray} {maxL nL n index : Nat} {ret : Option FieldType} {ws : List Cond} {rm : Room} {Ts : List Cond} {own C : String} {As : List Value} {st0 : List Value}
/-- a call of what may throw -/
theorem m_callVx (hfix : CallFix p m c cc nL s args Ts own) (hE : mE k ad N A s) (hI : mI k ad N g A s H locs) {post : Int32 → (Nat → va_E) → Prop} {xp : String → Prop} {i : Nat} (hM : mXi k l y ws rm ad N g H.size (.ref (ad i) :: As) post xp) (cw : CallW R s args own C index y bytes maxL ret ws rm 1 6 n) {ci : Nat} {fs : List Value} {T : u_T} {N' : Nat} (hi : i < N) (he : g i = .inr (ci, fs)) (hc : vwCl[ci]? = some (C, T, N'))
    (hn : As.length = n) (hsize : ls.size = nL) (hst : st0 = As.reverse ++ .ref (ad i) :: rest) (hW : (rest.map fun v => v.category).sum ≤ 8) (hdg : decode cc pc = .ok (.invokevirtual index, 3)) (hf : cells + 1 ≤ R.cells ∧ slots + 6 ≤ R.slots)
    (kx : ∀ (E : String) (ce : Cell) (q9 : Addr) (H : Heap) (locs : List Loc), xp E → mI k ad N g A s H locs → H[q9]? = some ce → ce.vm = .none → s.vm.findClass E = some ce.cls → vx_W p l e R s m args below meth c H locs (cells + 1) (slots + 6) Q (F0 m pc ls rest) q9)
    (kk : ∀ (r : Int32) (g : Nat → va_E) (H : Heap) (locs : List Loc), post r g → mI k ad N g A s H locs → W p l e R s m args below meth c H locs (cells + 1) (slots + 6) Q (F0 m (pc + 3) ls (.int r :: rest))) : W p l e R s m args below meth c H locs cells slots Q (F0 m pc ls st0) :=
  vx_calli (vx_runV (As := As) (rest := rest) hfix hM cw (m_preV hE hI hi he hc) rfl hn hsize hst (lv_room hW) hdg hf) hI.2 (fun q _ h => mA_sub hE hI q h) (mA_sub hE hI) (fun q _ h => mA_sub hE hI q h)
    (fun E ce q9 u t H1 locs1 ht hvm _ hB hz hk hS hce hcv hcl => kx E ce q9 H1 locs1 hB.1 ⟨by rw [← ht]; exact hB.2, hS⟩ hce hcv hcl)
    (fun r g' t H1 locs1 ht hvm hp hB hz hk hS => kk r g' H1 locs1 hp ⟨by rw [← ht]; exact hB, hS⟩)
end MR
end MX
end
section
theorem CWi.kept {k : mC} {ad : Nat → Nat} {g g1 : Nat → va_E} {play : Nat} {lat : Nat → Int32} {gar : Nat → Nat} (h : CWi k ad g play lat gar) (ho : ∀ i, 1 ≤ i → i < 6 → g1 i = g i) : CWi k ad g1 play lat gar :=
  ⟨(ho 1 (by omega) (by omega)).trans h.1, h.2.1.kept (ho 2 (by omega) (by omega)) (ho 3 (by omega) (by omega)), h.2.2.kept (ho 4 (by omega) (by omega)) (ho 5 (by omega) (by omega))⟩
def tn (x : Int32) : Nat := x.toNatClampNeg
theorem tn_nI {j : Nat} (h : j < 2147483648) : tn (nI j) = j := nI_clamp h
set_option maxHeartbeats 8000000 in
set_option maxRecDepth 100000 in
theorem c_X3_obey (k : mC) (l : Launch) (ad : Nat → Nat) (N : Nat) (g : Nat → va_E) (sz : Nat) (uns : Bool) (play rd n : Nat) (lat : Nat → Int32) (gar T : Nat → Nat) (came : Nat) (mis lost bel : Int32) (fig : Bool) (fi u : Nat) (z : Nat → Nat) (F : Nat → Nat → Nat) (r : Nat → Option Nat) (co : Nat) (hN : 50 ≤ N) (hW : CW play rd n lat gar T) (hwf : cWf (fi, u, z, F)) (hcame : came < 2147483648) (hC : CR k ad g uns play rd n lat gar T (came, mis, lost, bel, fig, fi, u, z, F) r) (hc : co < 32) : mCv k l yX3_obey wsX3_obey { frames := 3, cells := 0, slots := 0, locals := 63 } ad N g sz [.ref (ad 0), .int (nI co)] (fun g1 => CR k ad g1 uns play rd n lat gar T (yOb cNl cFull cAdd uns co (came, mis, lost, bel, fig, fi, u, z, F)) r ∧ ∀ i, 50 ≤ i → g1 i = g i) := by
  refine mOf (Qc := fun z9 => va_Qv (fun g1 => CR k ad g1 uns play rd n lat gar T (yOb cNl cFull cAdd uns co (came, mis, lost, bel, fig, fi, u, z, F)) r ∧ ∀ i, 50 ≤ i → g1 i = g i) (mB k ad N) (mA ad N z9)) (cc := cX3_obey) (maxL := 3) (ret := none) (by decide) rfl (Nat.le_of_ble_eq_true rfl) ?_
  intro p e s m below meth c hx hb hr hts hown hlocks hml hin hE hI ls hl
  have hl : lv_has ls 3 [(0, .ref (ad 0)), (1, .int (nI co))] := hl
  have h0 : g 0 = .inr (3, [.ref (ad 1), .ref (ad 6), .ref (ad 48), .int (nI rd), .int (bI fig), .int (bI uns), .int (nI came), .int mis, .int lost, .int bel]) := hC.1
  have hWi : CWi k ad g play lat gar := hC.2.1
  have hSh : CSh k ad g fi u z F r := hC.2.2.1
  have h48 : g 48 = .inr (0, [.ref (ad 49), .int (nI n)]) := hC.2.2.2.1
  have h49 : g 49 = .inl (k.2.1.1, 120, .inl (fun j => nI (T j))) := hC.2.2.2.2
  have hr48 : CRow k ad g 48 120 n (fun j => nI (T j)) := ⟨h48, h49⟩
  have h1 := hWi.1
  have h6 : g 6 = .inr (1, [.ref (ad 7), .int (nI fi), .int (nI u)]) := hSh.1
  obtain ⟨hplay, hrd, hn, hgar, hT, hlat⟩ := id hW
  have hfi : fi < 20 := hwf.1
  have hu0 : 0 < u := hwf.2.1
  have hu : u ≤ 20 := hwf.2.2
  refine lv_iload_n hx hb dX3_obey_0 rfl (lv_at hl 1 rfl) ?_
  refine lv_aload_n hx hb dX3_obey_1 rfl (lv_at hl 0 rfl) ?_
  refine m_get (ci := 3) (C := RX3) (T := TX3) (N' := 10) hx hb hts (by decide +kernel) hown hE hI 0 (by omega) h0 rfl 4 (by decide) (hts (.fieldLink RX3 61 "TapePrinter" "figures" "Z") (by decide +kernel)) rfl dX3_obey_2 ?_
  refine m_callSi (As := [.int (nI co), .int (bI fig)]) (rest := []) ⟨hx, hb, hml, hown, hts⟩ hE hI (c_X3_characterOf k l ad N g _ co fig (by omega)) (va_cwS 2 hts gX3_obey_X3_characterOf rfl rfl rfl (by decide +kernel) ⟨Nat.le_of_ble_eq_true rfl, Nat.le_of_ble_eq_true rfl⟩) rfl hl.1 rfl (Nat.le_of_ble_eq_true rfl) dX3_obey_5 ⟨Nat.le_of_ble_eq_true rfl, Nat.le_of_ble_eq_true rfl⟩ (m_deti (fun H locs hI => ?_))
  refine lv_istore_n (lv' := [(2, .int (nI (chF co fig))), (0, .ref (ad 0)), (1, .int (nI co))]) hx hb dX3_obey_8 rfl hl (by decide) rfl (fun ls hl => ?_)
  have hch := chF_le co hc fig
  refine lv_iload_n hx hb dX3_obey_9 rfl (lv_at hl 0 rfl) ?_
  refine lv_bipush (v := nI 54) hx hb dX3_obey_10 (by decide) ?_
  refine m_cneN (tgt := 25) hx hb (by omega) (by omega) dX3_obey_12 (by decide) (fun c_12 => ?_) (fun c_12 => ?_)
  · refine lv_iload_n hx hb dX3_obey_25 rfl (lv_at hl 0 rfl) ?_
    refine m_zeqN (tgt := 50) hx hb (by omega) dX3_obey_26 (by decide) (fun c_26 => ?_) (fun c_26 => ?_)
    · have hpo : pOb cNl cFull cAdd (chF co fig) (fi, u, z, F) = (fi, u, z, F) := by unfold pOb; rw [if_neg c_12, if_pos c_26]
      have hlo2 : lOb cFull (chF co fig) (fi, u, z, F) lost = lost := by unfold lOb; rw [if_neg c_12, if_pos c_26]
      refine lv_iload_n hx hb dX3_obey_50 rfl (lv_at hl 2 rfl) ?_
      refine lv_bipush (v := nI 8) hx hb dX3_obey_51 (by decide) ?_
      refine m_cneN (tgt := 66) hx hb (by omega) (by omega) dX3_obey_53 (by decide) (fun c_53 => ?_) (fun c_53 => ?_)
      · refine lv_aload_n hx hb dX3_obey_66 rfl (lv_at hl 1 rfl) ?_
        refine lv_aload_n hx hb dX3_obey_67 rfl (lv_at hl 1 rfl) ?_
        refine lv_iload_n hx hb dX3_obey_68 rfl (lv_at hl 2 rfl) ?_
        refine lv_aload_n hx hb dX3_obey_69 rfl (lv_at hl 1 rfl) ?_
        refine m_get (ci := 3) (C := RX3) (T := TX3) (N' := 10) hx hb hts (by decide +kernel) hown hE hI 0 (by omega) h0 rfl 4 (by decide) (hts (.fieldLink RX3 61 "TapePrinter" "figures" "Z") (by decide +kernel)) rfl dX3_obey_70 ?_
        refine m_callVi (As := [.int (nI co), .int (bI fig)]) (rest := [.ref (ad 0)]) ⟨hx, hb, hml, hown, hts⟩ hE hI (c_X3_figuresBehind k l ad N g _ rd fig uns came mis lost bel  co fig (by omega) h0  (by omega)) (cwV 2 hts gX3_obey_X3_figuresBehind rfl rfl rfl (by decide +kernel) ⟨Nat.le_of_ble_eq_true rfl, Nat.le_of_ble_eq_true rfl⟩) (i := 0) (by omega) h0 rfl rfl hl.1 rfl (Nat.le_of_ble_eq_true rfl) dX3_obey_73 ⟨Nat.le_of_ble_eq_true rfl, Nat.le_of_ble_eq_true rfl⟩ (m_deti (fun H locs hI => ?_))
        refine m_put (ci := 3) (C := RX3) (T := TX3) (N' := 10) (ty := .boolean) hx hb hts (by decide +kernel) tyX3 tyX3_ok nmX3 hown hE hI 0 (by omega) h0 rfl 4 (by decide) (hts (.fieldLink RX3 61 "TapePrinter" "figures" "Z") (by decide +kernel)) rfl (by decide +kernel) (bI_nar _) (bI_fit _) (Nat.le_of_ble_eq_true rfl) dX3_obey_76 (fun H locs hI => ?_)
        obtain ⟨g1, hg1⟩ : ∃ zz, zz = va_up g 0 (.inr (3, [.ref (ad 1), .ref (ad 6), .ref (ad 48), .int (nI rd), .int (bI (fb uns co fig)), .int (bI uns), .int (nI came), .int mis, .int lost, .int bel])) := ⟨_, rfl⟩
        replace hI : mI k ad N g1 (mA ad N s.heap.size) s H locs := by rw [hg1]; exact hI
        have m_1 : g1 0 = .inr (3, [.ref (ad 1), .ref (ad 6), .ref (ad 48), .int (nI rd), .int (bI (fb uns co fig)), .int (bI uns), .int (nI came), .int mis, .int lost, .int bel]) := by rw [hg1, va_up_self]
        have m_2 : g1 1 = .inr (2, [.ref (ad 2), .ref (ad 4), .int (nI play)]) := by rw [hg1, va_up_ne _ _ (by omega)]; exact h1
        have m_3 : g1 48 = .inr (0, [.ref (ad 49), .int (nI n)]) := by rw [hg1, va_up_ne _ _ (by omega)]; exact h48
        have m_4 : g1 49 = .inl (k.2.1.1, 120, .inl (fun j => nI (T j))) := by rw [hg1, va_up_ne _ _ (by omega)]; exact h49
        have m_5 : g1 6 = .inr (1, [.ref (ad 7), .int (nI fi), .int (nI u)]) := by rw [hg1, va_up_ne _ _ (by omega)]; exact h6
        have hy : yOb cNl cFull cAdd uns co (came, mis, lost, bel, fig, fi, u, z, F) = (came, mis, lost, bel, fb uns co fig, (fi, u, z, F)) := by
          show (came, mis, lOb cFull (chF co fig) (fi, u, z, F) lost, (if co = 8 then bel + 1 else bel), fb uns co fig, pOb cNl cFull cAdd (chF co fig) (fi, u, z, F)) = _
          rw [hpo, hlo2, if_neg c_53]
        have hk9 : ∀ i, i ≠ 0 → g1 i = g i := fun i hi => by rw [hg1, va_up_ne _ _ hi]
        have hS9 : CSh k ad g1 fi u z F r := hSh.kept (fun i h1 h2 => hk9 i (by omega))
        have hk8 : ∀ i, (1 ≤ i ∧ i < 6) ∨ 48 ≤ i → g1 i = g i := fun i hi => hk9 i (by omega)
        exact m_vret hx hb hr hlocks hI (⟨by rw [hy]; exact ⟨m_1, hWi.kept (fun i h1 h2 => hk8 i (by omega)), hS9, ⟨m_3, m_4⟩⟩, fun i hi => hk8 i (by omega)⟩) dX3_obey_79
      · refine lv_aload_n hx hb dX3_obey_56 rfl (lv_at hl 1 rfl) ?_
        refine lv_dup hx hb dX3_obey_57 rfl ?_
        refine m_get (ci := 3) (C := RX3) (T := TX3) (N' := 10) hx hb hts (by decide +kernel) hown hE hI 0 (by omega) h0 rfl 9 (by decide) (hts (.fieldLink RX3 204 "TapePrinter" "bells" "I") (by decide +kernel)) rfl dX3_obey_58 ?_
        refine lv_iconst (v := nI 1) hx hb dX3_obey_61 (by decide) ?_
        refine lv_iadd hx hb dX3_obey_62 ?_
        refine m_top (show bel + (nI 1) = bel + 1 from rfl) ?_
        refine m_put (ci := 3) (C := RX3) (T := TX3) (N' := 10) (ty := .int) hx hb hts (by decide +kernel) tyX3 tyX3_ok nmX3 hown hE hI 0 (by omega) h0 rfl 9 (by decide) (hts (.fieldLink RX3 204 "TapePrinter" "bells" "I") (by decide +kernel)) rfl (by decide +kernel) rfl rfl (Nat.le_of_ble_eq_true rfl) dX3_obey_63 (fun H locs hI => ?_)
        obtain ⟨g2, hg2⟩ : ∃ zz, zz = va_up g 0 (.inr (3, [.ref (ad 1), .ref (ad 6), .ref (ad 48), .int (nI rd), .int (bI fig), .int (bI uns), .int (nI came), .int mis, .int lost, .int (bel + 1)])) := ⟨_, rfl⟩
        replace hI : mI k ad N g2 (mA ad N s.heap.size) s H locs := by rw [hg2]; exact hI
        have m_6 : g2 0 = .inr (3, [.ref (ad 1), .ref (ad 6), .ref (ad 48), .int (nI rd), .int (bI fig), .int (bI uns), .int (nI came), .int mis, .int lost, .int (bel + 1)]) := by rw [hg2, va_up_self]
        have m_7 : g2 1 = .inr (2, [.ref (ad 2), .ref (ad 4), .int (nI play)]) := by rw [hg2, va_up_ne _ _ (by omega)]; exact h1
        have m_8 : g2 48 = .inr (0, [.ref (ad 49), .int (nI n)]) := by rw [hg2, va_up_ne _ _ (by omega)]; exact h48
        have m_9 : g2 49 = .inl (k.2.1.1, 120, .inl (fun j => nI (T j))) := by rw [hg2, va_up_ne _ _ (by omega)]; exact h49
        have m_10 : g2 6 = .inr (1, [.ref (ad 7), .int (nI fi), .int (nI u)]) := by rw [hg2, va_up_ne _ _ (by omega)]; exact h6
        refine lv_aload_n hx hb dX3_obey_66 rfl (lv_at hl 1 rfl) ?_
        refine lv_aload_n hx hb dX3_obey_67 rfl (lv_at hl 1 rfl) ?_
        refine lv_iload_n hx hb dX3_obey_68 rfl (lv_at hl 2 rfl) ?_
        refine lv_aload_n hx hb dX3_obey_69 rfl (lv_at hl 1 rfl) ?_
        refine m_get (ci := 3) (C := RX3) (T := TX3) (N' := 10) hx hb hts (by decide +kernel) hown hE hI 0 (by omega) m_6 rfl 4 (by decide) (hts (.fieldLink RX3 61 "TapePrinter" "figures" "Z") (by decide +kernel)) rfl dX3_obey_70 ?_
        refine m_callVi (As := [.int (nI co), .int (bI fig)]) (rest := [.ref (ad 0)]) ⟨hx, hb, hml, hown, hts⟩ hE hI (c_X3_figuresBehind k l ad N g2 _ rd fig uns came mis lost (bel + 1)  co fig (by omega) m_6  (by omega)) (cwV 2 hts gX3_obey_X3_figuresBehind rfl rfl rfl (by decide +kernel) ⟨Nat.le_of_ble_eq_true rfl, Nat.le_of_ble_eq_true rfl⟩) (i := 0) (by omega) m_6 rfl rfl hl.1 rfl (Nat.le_of_ble_eq_true rfl) dX3_obey_73 ⟨Nat.le_of_ble_eq_true rfl, Nat.le_of_ble_eq_true rfl⟩ (m_deti (fun H locs hI => ?_))
        refine m_put (ci := 3) (C := RX3) (T := TX3) (N' := 10) (ty := .boolean) hx hb hts (by decide +kernel) tyX3 tyX3_ok nmX3 hown hE hI 0 (by omega) m_6 rfl 4 (by decide) (hts (.fieldLink RX3 61 "TapePrinter" "figures" "Z") (by decide +kernel)) rfl (by decide +kernel) (bI_nar _) (bI_fit _) (Nat.le_of_ble_eq_true rfl) dX3_obey_76 (fun H locs hI => ?_)
        obtain ⟨g3, hg3⟩ : ∃ zz, zz = va_up g2 0 (.inr (3, [.ref (ad 1), .ref (ad 6), .ref (ad 48), .int (nI rd), .int (bI (fb uns co fig)), .int (bI uns), .int (nI came), .int mis, .int lost, .int (bel + 1)])) := ⟨_, rfl⟩
        replace hI : mI k ad N g3 (mA ad N s.heap.size) s H locs := by rw [hg3]; exact hI
        have m_11 : g3 0 = .inr (3, [.ref (ad 1), .ref (ad 6), .ref (ad 48), .int (nI rd), .int (bI (fb uns co fig)), .int (bI uns), .int (nI came), .int mis, .int lost, .int (bel + 1)]) := by rw [hg3, va_up_self]
        have m_12 : g3 1 = .inr (2, [.ref (ad 2), .ref (ad 4), .int (nI play)]) := by rw [hg3, va_up_ne _ _ (by omega)]; exact m_7
        have m_13 : g3 48 = .inr (0, [.ref (ad 49), .int (nI n)]) := by rw [hg3, va_up_ne _ _ (by omega)]; exact m_8
        have m_14 : g3 49 = .inl (k.2.1.1, 120, .inl (fun j => nI (T j))) := by rw [hg3, va_up_ne _ _ (by omega)]; exact m_9
        have m_15 : g3 6 = .inr (1, [.ref (ad 7), .int (nI fi), .int (nI u)]) := by rw [hg3, va_up_ne _ _ (by omega)]; exact m_10
        have hy : yOb cNl cFull cAdd uns co (came, mis, lost, bel, fig, fi, u, z, F) = (came, mis, lost, bel + 1, fb uns co fig, (fi, u, z, F)) := by
          show (came, mis, lOb cFull (chF co fig) (fi, u, z, F) lost, (if co = 8 then bel + 1 else bel), fb uns co fig, pOb cNl cFull cAdd (chF co fig) (fi, u, z, F)) = _
          rw [hpo, hlo2, if_pos c_53]
        have hk9 : ∀ i, i ≠ 0 → g3 i = g i := fun i hi => by rw [hg3, va_up_ne _ _ hi, hg2, va_up_ne _ _ hi]
        have hS9 : CSh k ad g3 fi u z F r := hSh.kept (fun i h1 h2 => hk9 i (by omega))
        have hk8 : ∀ i, (1 ≤ i ∧ i < 6) ∨ 48 ≤ i → g3 i = g i := fun i hi => hk9 i (by omega)
        exact m_vret hx hb hr hlocks hI (⟨by rw [hy]; exact ⟨m_11, hWi.kept (fun i h1 h2 => hk8 i (by omega)), hS9, ⟨m_13, m_14⟩⟩, fun i hi => hk8 i (by omega)⟩) dX3_obey_79
    · by_cases hz8 : z (slt fi (u - 1)) = 40
      · have hz9 := hz8
        have hfull : cFull (fi, u, z, F) = true := decide_eq_true hz8
        have hpo : pOb cNl cFull cAdd (chF co fig) (fi, u, z, F) = (fi, u, z, F) := by unfold pOb; rw [if_neg c_12, if_neg c_26, hfull] <;> rfl
        have hlo2 : lOb cFull (chF co fig) (fi, u, z, F) lost = lost + 1 := by unfold lOb; rw [if_neg c_12, if_neg c_26, hfull] <;> rfl
        refine lv_aload_n hx hb dX3_obey_29 rfl (lv_at hl 1 rfl) ?_
        refine m_get (ci := 3) (C := RX3) (T := TX3) (N' := 10) hx hb hts (by decide +kernel) hown hE hI 0 (by omega) h0 rfl 1 (by decide) (hts (.fieldLink RX3 19 "TapePrinter" "sheet" "LTapePrinter$Sheet;") (by decide +kernel)) rfl dX3_obey_30 ?_
        refine lv_iload_n hx hb dX3_obey_33 rfl (lv_at hl 0 rfl) ?_
        refine m_callVi (As := [.int (nI (chF co fig))]) (rest := []) ⟨hx, hb, hml, hown, hts⟩ hE hI (c_X1_add_out k l ad N g _ fi u z F r (chF co fig) (by omega) hfi hu hu0 hSh hz9) (cwV 1 hts gX3_obey_X1_add rfl rfl rfl (by decide +kernel) ⟨Nat.le_of_ble_eq_true rfl, Nat.le_of_ble_eq_true rfl⟩) (i := 6) (by omega) h6 rfl rfl hl.1 rfl (Nat.le_of_ble_eq_true rfl) dX3_obey_34 ⟨Nat.le_of_ble_eq_true rfl, Nat.le_of_ble_eq_true rfl⟩ (m_deti (fun H locs hI => ?_))
        refine m_zneB (tgt := 50) hx hb dX3_obey_37 (by decide) (fun c => absurd c (by decide)) (fun c_37 => ?_)
        refine lv_aload_n hx hb dX3_obey_40 rfl (lv_at hl 1 rfl) ?_
        refine lv_dup hx hb dX3_obey_41 rfl ?_
        refine m_get (ci := 3) (C := RX3) (T := TX3) (N' := 10) hx hb hts (by decide +kernel) hown hE hI 0 (by omega) h0 rfl 8 (by decide) (hts (.fieldLink RX3 201 "TapePrinter" "lost" "I") (by decide +kernel)) rfl dX3_obey_42 ?_
        refine lv_iconst (v := nI 1) hx hb dX3_obey_45 (by decide) ?_
        refine lv_iadd hx hb dX3_obey_46 ?_
        refine m_top (show lost + (nI 1) = lost + 1 from rfl) ?_
        refine m_put (ci := 3) (C := RX3) (T := TX3) (N' := 10) (ty := .int) hx hb hts (by decide +kernel) tyX3 tyX3_ok nmX3 hown hE hI 0 (by omega) h0 rfl 8 (by decide) (hts (.fieldLink RX3 201 "TapePrinter" "lost" "I") (by decide +kernel)) rfl (by decide +kernel) rfl rfl (Nat.le_of_ble_eq_true rfl) dX3_obey_47 (fun H locs hI => ?_)
        obtain ⟨g4, hg4⟩ : ∃ zz, zz = va_up g 0 (.inr (3, [.ref (ad 1), .ref (ad 6), .ref (ad 48), .int (nI rd), .int (bI fig), .int (bI uns), .int (nI came), .int mis, .int (lost + 1), .int bel])) := ⟨_, rfl⟩
        replace hI : mI k ad N g4 (mA ad N s.heap.size) s H locs := by rw [hg4]; exact hI
        have m_16 : g4 0 = .inr (3, [.ref (ad 1), .ref (ad 6), .ref (ad 48), .int (nI rd), .int (bI fig), .int (bI uns), .int (nI came), .int mis, .int (lost + 1), .int bel]) := by rw [hg4, va_up_self]
        have m_17 : g4 1 = .inr (2, [.ref (ad 2), .ref (ad 4), .int (nI play)]) := by rw [hg4, va_up_ne _ _ (by omega)]; exact h1
        have m_18 : g4 48 = .inr (0, [.ref (ad 49), .int (nI n)]) := by rw [hg4, va_up_ne _ _ (by omega)]; exact h48
        have m_19 : g4 49 = .inl (k.2.1.1, 120, .inl (fun j => nI (T j))) := by rw [hg4, va_up_ne _ _ (by omega)]; exact h49
        have m_20 : g4 6 = .inr (1, [.ref (ad 7), .int (nI fi), .int (nI u)]) := by rw [hg4, va_up_ne _ _ (by omega)]; exact h6
        refine lv_iload_n hx hb dX3_obey_50 rfl (lv_at hl 2 rfl) ?_
        refine lv_bipush (v := nI 8) hx hb dX3_obey_51 (by decide) ?_
        refine m_cneN (tgt := 66) hx hb (by omega) (by omega) dX3_obey_53 (by decide) (fun c_53 => ?_) (fun c_53 => ?_)
        · refine lv_aload_n hx hb dX3_obey_66 rfl (lv_at hl 1 rfl) ?_
          refine lv_aload_n hx hb dX3_obey_67 rfl (lv_at hl 1 rfl) ?_
          refine lv_iload_n hx hb dX3_obey_68 rfl (lv_at hl 2 rfl) ?_
          refine lv_aload_n hx hb dX3_obey_69 rfl (lv_at hl 1 rfl) ?_
          refine m_get (ci := 3) (C := RX3) (T := TX3) (N' := 10) hx hb hts (by decide +kernel) hown hE hI 0 (by omega) m_16 rfl 4 (by decide) (hts (.fieldLink RX3 61 "TapePrinter" "figures" "Z") (by decide +kernel)) rfl dX3_obey_70 ?_
          refine m_callVi (As := [.int (nI co), .int (bI fig)]) (rest := [.ref (ad 0)]) ⟨hx, hb, hml, hown, hts⟩ hE hI (c_X3_figuresBehind k l ad N g4 _ rd fig uns came mis (lost + 1) bel  co fig (by omega) m_16  (by omega)) (cwV 2 hts gX3_obey_X3_figuresBehind rfl rfl rfl (by decide +kernel) ⟨Nat.le_of_ble_eq_true rfl, Nat.le_of_ble_eq_true rfl⟩) (i := 0) (by omega) m_16 rfl rfl hl.1 rfl (Nat.le_of_ble_eq_true rfl) dX3_obey_73 ⟨Nat.le_of_ble_eq_true rfl, Nat.le_of_ble_eq_true rfl⟩ (m_deti (fun H locs hI => ?_))
          refine m_put (ci := 3) (C := RX3) (T := TX3) (N' := 10) (ty := .boolean) hx hb hts (by decide +kernel) tyX3 tyX3_ok nmX3 hown hE hI 0 (by omega) m_16 rfl 4 (by decide) (hts (.fieldLink RX3 61 "TapePrinter" "figures" "Z") (by decide +kernel)) rfl (by decide +kernel) (bI_nar _) (bI_fit _) (Nat.le_of_ble_eq_true rfl) dX3_obey_76 (fun H locs hI => ?_)
          obtain ⟨g5, hg5⟩ : ∃ zz, zz = va_up g4 0 (.inr (3, [.ref (ad 1), .ref (ad 6), .ref (ad 48), .int (nI rd), .int (bI (fb uns co fig)), .int (bI uns), .int (nI came), .int mis, .int (lost + 1), .int bel])) := ⟨_, rfl⟩
          replace hI : mI k ad N g5 (mA ad N s.heap.size) s H locs := by rw [hg5]; exact hI
          have m_21 : g5 0 = .inr (3, [.ref (ad 1), .ref (ad 6), .ref (ad 48), .int (nI rd), .int (bI (fb uns co fig)), .int (bI uns), .int (nI came), .int mis, .int (lost + 1), .int bel]) := by rw [hg5, va_up_self]
          have m_22 : g5 1 = .inr (2, [.ref (ad 2), .ref (ad 4), .int (nI play)]) := by rw [hg5, va_up_ne _ _ (by omega)]; exact m_17
          have m_23 : g5 48 = .inr (0, [.ref (ad 49), .int (nI n)]) := by rw [hg5, va_up_ne _ _ (by omega)]; exact m_18
          have m_24 : g5 49 = .inl (k.2.1.1, 120, .inl (fun j => nI (T j))) := by rw [hg5, va_up_ne _ _ (by omega)]; exact m_19
          have m_25 : g5 6 = .inr (1, [.ref (ad 7), .int (nI fi), .int (nI u)]) := by rw [hg5, va_up_ne _ _ (by omega)]; exact m_20
          have hy : yOb cNl cFull cAdd uns co (came, mis, lost, bel, fig, fi, u, z, F) = (came, mis, lost + 1, bel, fb uns co fig, (fi, u, z, F)) := by
            show (came, mis, lOb cFull (chF co fig) (fi, u, z, F) lost, (if co = 8 then bel + 1 else bel), fb uns co fig, pOb cNl cFull cAdd (chF co fig) (fi, u, z, F)) = _
            rw [hpo, hlo2, if_neg c_53]
          have hk9 : ∀ i, i ≠ 0 → g5 i = g i := fun i hi => by rw [hg5, va_up_ne _ _ hi, hg4, va_up_ne _ _ hi]
          have hS9 : CSh k ad g5 fi u z F r := hSh.kept (fun i h1 h2 => hk9 i (by omega))
          have hk8 : ∀ i, (1 ≤ i ∧ i < 6) ∨ 48 ≤ i → g5 i = g i := fun i hi => hk9 i (by omega)
          exact m_vret hx hb hr hlocks hI (⟨by rw [hy]; exact ⟨m_21, hWi.kept (fun i h1 h2 => hk8 i (by omega)), hS9, ⟨m_23, m_24⟩⟩, fun i hi => hk8 i (by omega)⟩) dX3_obey_79
        · refine lv_aload_n hx hb dX3_obey_56 rfl (lv_at hl 1 rfl) ?_
          refine lv_dup hx hb dX3_obey_57 rfl ?_
          refine m_get (ci := 3) (C := RX3) (T := TX3) (N' := 10) hx hb hts (by decide +kernel) hown hE hI 0 (by omega) m_16 rfl 9 (by decide) (hts (.fieldLink RX3 204 "TapePrinter" "bells" "I") (by decide +kernel)) rfl dX3_obey_58 ?_
          refine lv_iconst (v := nI 1) hx hb dX3_obey_61 (by decide) ?_
          refine lv_iadd hx hb dX3_obey_62 ?_
          refine m_top (show bel + (nI 1) = bel + 1 from rfl) ?_
          refine m_put (ci := 3) (C := RX3) (T := TX3) (N' := 10) (ty := .int) hx hb hts (by decide +kernel) tyX3 tyX3_ok nmX3 hown hE hI 0 (by omega) m_16 rfl 9 (by decide) (hts (.fieldLink RX3 204 "TapePrinter" "bells" "I") (by decide +kernel)) rfl (by decide +kernel) rfl rfl (Nat.le_of_ble_eq_true rfl) dX3_obey_63 (fun H locs hI => ?_)
          obtain ⟨g6, hg6⟩ : ∃ zz, zz = va_up g4 0 (.inr (3, [.ref (ad 1), .ref (ad 6), .ref (ad 48), .int (nI rd), .int (bI fig), .int (bI uns), .int (nI came), .int mis, .int (lost + 1), .int (bel + 1)])) := ⟨_, rfl⟩
          replace hI : mI k ad N g6 (mA ad N s.heap.size) s H locs := by rw [hg6]; exact hI
          have m_26 : g6 0 = .inr (3, [.ref (ad 1), .ref (ad 6), .ref (ad 48), .int (nI rd), .int (bI fig), .int (bI uns), .int (nI came), .int mis, .int (lost + 1), .int (bel + 1)]) := by rw [hg6, va_up_self]
          have m_27 : g6 1 = .inr (2, [.ref (ad 2), .ref (ad 4), .int (nI play)]) := by rw [hg6, va_up_ne _ _ (by omega)]; exact m_17
          have m_28 : g6 48 = .inr (0, [.ref (ad 49), .int (nI n)]) := by rw [hg6, va_up_ne _ _ (by omega)]; exact m_18
          have m_29 : g6 49 = .inl (k.2.1.1, 120, .inl (fun j => nI (T j))) := by rw [hg6, va_up_ne _ _ (by omega)]; exact m_19
          have m_30 : g6 6 = .inr (1, [.ref (ad 7), .int (nI fi), .int (nI u)]) := by rw [hg6, va_up_ne _ _ (by omega)]; exact m_20
          refine lv_aload_n hx hb dX3_obey_66 rfl (lv_at hl 1 rfl) ?_
          refine lv_aload_n hx hb dX3_obey_67 rfl (lv_at hl 1 rfl) ?_
          refine lv_iload_n hx hb dX3_obey_68 rfl (lv_at hl 2 rfl) ?_
          refine lv_aload_n hx hb dX3_obey_69 rfl (lv_at hl 1 rfl) ?_
          refine m_get (ci := 3) (C := RX3) (T := TX3) (N' := 10) hx hb hts (by decide +kernel) hown hE hI 0 (by omega) m_26 rfl 4 (by decide) (hts (.fieldLink RX3 61 "TapePrinter" "figures" "Z") (by decide +kernel)) rfl dX3_obey_70 ?_
          refine m_callVi (As := [.int (nI co), .int (bI fig)]) (rest := [.ref (ad 0)]) ⟨hx, hb, hml, hown, hts⟩ hE hI (c_X3_figuresBehind k l ad N g6 _ rd fig uns came mis (lost + 1) (bel + 1)  co fig (by omega) m_26  (by omega)) (cwV 2 hts gX3_obey_X3_figuresBehind rfl rfl rfl (by decide +kernel) ⟨Nat.le_of_ble_eq_true rfl, Nat.le_of_ble_eq_true rfl⟩) (i := 0) (by omega) m_26 rfl rfl hl.1 rfl (Nat.le_of_ble_eq_true rfl) dX3_obey_73 ⟨Nat.le_of_ble_eq_true rfl, Nat.le_of_ble_eq_true rfl⟩ (m_deti (fun H locs hI => ?_))
          refine m_put (ci := 3) (C := RX3) (T := TX3) (N' := 10) (ty := .boolean) hx hb hts (by decide +kernel) tyX3 tyX3_ok nmX3 hown hE hI 0 (by omega) m_26 rfl 4 (by decide) (hts (.fieldLink RX3 61 "TapePrinter" "figures" "Z") (by decide +kernel)) rfl (by decide +kernel) (bI_nar _) (bI_fit _) (Nat.le_of_ble_eq_true rfl) dX3_obey_76 (fun H locs hI => ?_)
          obtain ⟨g7, hg7⟩ : ∃ zz, zz = va_up g6 0 (.inr (3, [.ref (ad 1), .ref (ad 6), .ref (ad 48), .int (nI rd), .int (bI (fb uns co fig)), .int (bI uns), .int (nI came), .int mis, .int (lost + 1), .int (bel + 1)])) := ⟨_, rfl⟩
          replace hI : mI k ad N g7 (mA ad N s.heap.size) s H locs := by rw [hg7]; exact hI
          have m_31 : g7 0 = .inr (3, [.ref (ad 1), .ref (ad 6), .ref (ad 48), .int (nI rd), .int (bI (fb uns co fig)), .int (bI uns), .int (nI came), .int mis, .int (lost + 1), .int (bel + 1)]) := by rw [hg7, va_up_self]
          have m_32 : g7 1 = .inr (2, [.ref (ad 2), .ref (ad 4), .int (nI play)]) := by rw [hg7, va_up_ne _ _ (by omega)]; exact m_27
          have m_33 : g7 48 = .inr (0, [.ref (ad 49), .int (nI n)]) := by rw [hg7, va_up_ne _ _ (by omega)]; exact m_28
          have m_34 : g7 49 = .inl (k.2.1.1, 120, .inl (fun j => nI (T j))) := by rw [hg7, va_up_ne _ _ (by omega)]; exact m_29
          have m_35 : g7 6 = .inr (1, [.ref (ad 7), .int (nI fi), .int (nI u)]) := by rw [hg7, va_up_ne _ _ (by omega)]; exact m_30
          have hy : yOb cNl cFull cAdd uns co (came, mis, lost, bel, fig, fi, u, z, F) = (came, mis, lost + 1, bel + 1, fb uns co fig, (fi, u, z, F)) := by
            show (came, mis, lOb cFull (chF co fig) (fi, u, z, F) lost, (if co = 8 then bel + 1 else bel), fb uns co fig, pOb cNl cFull cAdd (chF co fig) (fi, u, z, F)) = _
            rw [hpo, hlo2, if_pos c_53]
          have hk9 : ∀ i, i ≠ 0 → g7 i = g i := fun i hi => by rw [hg7, va_up_ne _ _ hi, hg6, va_up_ne _ _ hi, hg4, va_up_ne _ _ hi]
          have hS9 : CSh k ad g7 fi u z F r := hSh.kept (fun i h1 h2 => hk9 i (by omega))
          have hk8 : ∀ i, (1 ≤ i ∧ i < 6) ∨ 48 ≤ i → g7 i = g i := fun i hi => hk9 i (by omega)
          exact m_vret hx hb hr hlocks hI (⟨by rw [hy]; exact ⟨m_31, hWi.kept (fun i h1 h2 => hk8 i (by omega)), hS9, ⟨m_33, m_34⟩⟩, fun i hi => hk8 i (by omega)⟩) dX3_obey_79
      · have hz9 : z (slt fi (u - 1)) < 40 := by have := (hSh.2.2.2 _ (slt_lt fi (u - 1))).2; omega
        have hfull : cFull (fi, u, z, F) = false := decide_eq_false hz8
        have hpo : pOb cNl cFull cAdd (chF co fig) (fi, u, z, F) = (fi, u, va_up z (slt fi (u - 1)) (z (slt fi (u - 1)) + 1), va_up F (slt fi (u - 1)) (va_up (F (slt fi (u - 1))) (z (slt fi (u - 1))) (chF co fig))) := by unfold pOb; rw [if_neg c_12, if_neg c_26, hfull] <;> rfl
        have hlo2 : lOb cFull (chF co fig) (fi, u, z, F) lost = lost := by unfold lOb; rw [if_neg c_12, if_neg c_26, hfull] <;> rfl
        refine lv_aload_n hx hb dX3_obey_29 rfl (lv_at hl 1 rfl) ?_
        refine m_get (ci := 3) (C := RX3) (T := TX3) (N' := 10) hx hb hts (by decide +kernel) hown hE hI 0 (by omega) h0 rfl 1 (by decide) (hts (.fieldLink RX3 19 "TapePrinter" "sheet" "LTapePrinter$Sheet;") (by decide +kernel)) rfl dX3_obey_30 ?_
        refine lv_iload_n hx hb dX3_obey_33 rfl (lv_at hl 0 rfl) ?_
        refine m_callVi (As := [.int (nI (chF co fig))]) (rest := []) ⟨hx, hb, hml, hown, hts⟩ hE hI (c_X1_add_in k l ad N g _ fi u z F r (chF co fig) (by omega) hfi hu hu0 hSh hz9) (cwV 1 hts gX3_obey_X1_add rfl rfl rfl (by decide +kernel) ⟨Nat.le_of_ble_eq_true rfl, Nat.le_of_ble_eq_true rfl⟩) (i := 6) (by omega) h6 rfl rfl hl.1 rfl (Nat.le_of_ble_eq_true rfl) dX3_obey_34 ⟨Nat.le_of_ble_eq_true rfl, Nat.le_of_ble_eq_true rfl⟩ (fun r9 g9 H locs hp hI => ?_)
        obtain ⟨hrr, hSg8, hkg8⟩ := hp
        subst hrr
        obtain ⟨g8, hg8⟩ : ∃ zz, zz = g9 := ⟨_, rfl⟩
        rw [← hg8] at hI hSg8 hkg8
        have m_36 : g8 0 = .inr (3, [.ref (ad 1), .ref (ad 6), .ref (ad 48), .int (nI rd), .int (bI fig), .int (bI uns), .int (nI came), .int mis, .int lost, .int bel]) := by rw [hkg8 _ (by omega)]; exact h0
        have m_37 : g8 1 = .inr (2, [.ref (ad 2), .ref (ad 4), .int (nI play)]) := by rw [hkg8 _ (by omega)]; exact h1
        have m_38 : g8 48 = .inr (0, [.ref (ad 49), .int (nI n)]) := by rw [hkg8 _ (by omega)]; exact h48
        have m_39 : g8 49 = .inl (k.2.1.1, 120, .inl (fun j => nI (T j))) := by rw [hkg8 _ (by omega)]; exact h49
        have m_40 : g8 6 = .inr (1, [.ref (ad 7), .int (nI fi), .int (nI u)]) := hSg8.1
        refine m_zneB (tgt := 50) hx hb dX3_obey_37 (by decide) (fun c_37 => ?_) (fun c => absurd c (by decide))
        refine lv_iload_n hx hb dX3_obey_50 rfl (lv_at hl 2 rfl) ?_
        refine lv_bipush (v := nI 8) hx hb dX3_obey_51 (by decide) ?_
        refine m_cneN (tgt := 66) hx hb (by omega) (by omega) dX3_obey_53 (by decide) (fun c_53 => ?_) (fun c_53 => ?_)
        · refine lv_aload_n hx hb dX3_obey_66 rfl (lv_at hl 1 rfl) ?_
          refine lv_aload_n hx hb dX3_obey_67 rfl (lv_at hl 1 rfl) ?_
          refine lv_iload_n hx hb dX3_obey_68 rfl (lv_at hl 2 rfl) ?_
          refine lv_aload_n hx hb dX3_obey_69 rfl (lv_at hl 1 rfl) ?_
          refine m_get (ci := 3) (C := RX3) (T := TX3) (N' := 10) hx hb hts (by decide +kernel) hown hE hI 0 (by omega) m_36 rfl 4 (by decide) (hts (.fieldLink RX3 61 "TapePrinter" "figures" "Z") (by decide +kernel)) rfl dX3_obey_70 ?_
          refine m_callVi (As := [.int (nI co), .int (bI fig)]) (rest := [.ref (ad 0)]) ⟨hx, hb, hml, hown, hts⟩ hE hI (c_X3_figuresBehind k l ad N g8 _ rd fig uns came mis lost bel  co fig (by omega) m_36  (by omega)) (cwV 2 hts gX3_obey_X3_figuresBehind rfl rfl rfl (by decide +kernel) ⟨Nat.le_of_ble_eq_true rfl, Nat.le_of_ble_eq_true rfl⟩) (i := 0) (by omega) m_36 rfl rfl hl.1 rfl (Nat.le_of_ble_eq_true rfl) dX3_obey_73 ⟨Nat.le_of_ble_eq_true rfl, Nat.le_of_ble_eq_true rfl⟩ (m_deti (fun H locs hI => ?_))
          refine m_put (ci := 3) (C := RX3) (T := TX3) (N' := 10) (ty := .boolean) hx hb hts (by decide +kernel) tyX3 tyX3_ok nmX3 hown hE hI 0 (by omega) m_36 rfl 4 (by decide) (hts (.fieldLink RX3 61 "TapePrinter" "figures" "Z") (by decide +kernel)) rfl (by decide +kernel) (bI_nar _) (bI_fit _) (Nat.le_of_ble_eq_true rfl) dX3_obey_76 (fun H locs hI => ?_)
          obtain ⟨g9, hg9⟩ : ∃ zz, zz = va_up g8 0 (.inr (3, [.ref (ad 1), .ref (ad 6), .ref (ad 48), .int (nI rd), .int (bI (fb uns co fig)), .int (bI uns), .int (nI came), .int mis, .int lost, .int bel])) := ⟨_, rfl⟩
          replace hI : mI k ad N g9 (mA ad N s.heap.size) s H locs := by rw [hg9]; exact hI
          have m_41 : g9 0 = .inr (3, [.ref (ad 1), .ref (ad 6), .ref (ad 48), .int (nI rd), .int (bI (fb uns co fig)), .int (bI uns), .int (nI came), .int mis, .int lost, .int bel]) := by rw [hg9, va_up_self]
          have m_42 : g9 1 = .inr (2, [.ref (ad 2), .ref (ad 4), .int (nI play)]) := by rw [hg9, va_up_ne _ _ (by omega)]; exact m_37
          have m_43 : g9 48 = .inr (0, [.ref (ad 49), .int (nI n)]) := by rw [hg9, va_up_ne _ _ (by omega)]; exact m_38
          have m_44 : g9 49 = .inl (k.2.1.1, 120, .inl (fun j => nI (T j))) := by rw [hg9, va_up_ne _ _ (by omega)]; exact m_39
          have m_45 : g9 6 = .inr (1, [.ref (ad 7), .int (nI fi), .int (nI u)]) := by rw [hg9, va_up_ne _ _ (by omega)]; exact m_40
          have hy : yOb cNl cFull cAdd uns co (came, mis, lost, bel, fig, fi, u, z, F) = (came, mis, lost, bel, fb uns co fig, (fi, u, va_up z (slt fi (u - 1)) (z (slt fi (u - 1)) + 1), va_up F (slt fi (u - 1)) (va_up (F (slt fi (u - 1))) (z (slt fi (u - 1))) (chF co fig)))) := by
            show (came, mis, lOb cFull (chF co fig) (fi, u, z, F) lost, (if co = 8 then bel + 1 else bel), fb uns co fig, pOb cNl cFull cAdd (chF co fig) (fi, u, z, F)) = _
            rw [hpo, hlo2, if_neg c_53]
          have hk9 : ∀ i, i ≠ 0 → g9 i = g8 i := fun i hi => by rw [hg9, va_up_ne _ _ hi]
          have hS9 : CSh k ad g9 fi u (va_up z (slt fi (u - 1)) (z (slt fi (u - 1)) + 1)) (va_up F (slt fi (u - 1)) (va_up (F (slt fi (u - 1))) (z (slt fi (u - 1))) (chF co fig))) r := hSg8.kept (fun i h1 h2 => hk9 i (by omega))
          have hk8 : ∀ i, (1 ≤ i ∧ i < 6) ∨ 48 ≤ i → g9 i = g i := fun i hi => by rw [hk9 i (by omega)]; exact hkg8 i (by omega)
          exact m_vret hx hb hr hlocks hI (⟨by rw [hy]; exact ⟨m_41, hWi.kept (fun i h1 h2 => hk8 i (by omega)), hS9, ⟨m_43, m_44⟩⟩, fun i hi => hk8 i (by omega)⟩) dX3_obey_79
        · refine lv_aload_n hx hb dX3_obey_56 rfl (lv_at hl 1 rfl) ?_
          refine lv_dup hx hb dX3_obey_57 rfl ?_
          refine m_get (ci := 3) (C := RX3) (T := TX3) (N' := 10) hx hb hts (by decide +kernel) hown hE hI 0 (by omega) m_36 rfl 9 (by decide) (hts (.fieldLink RX3 204 "TapePrinter" "bells" "I") (by decide +kernel)) rfl dX3_obey_58 ?_
          refine lv_iconst (v := nI 1) hx hb dX3_obey_61 (by decide) ?_
          refine lv_iadd hx hb dX3_obey_62 ?_
          refine m_top (show bel + (nI 1) = bel + 1 from rfl) ?_
          refine m_put (ci := 3) (C := RX3) (T := TX3) (N' := 10) (ty := .int) hx hb hts (by decide +kernel) tyX3 tyX3_ok nmX3 hown hE hI 0 (by omega) m_36 rfl 9 (by decide) (hts (.fieldLink RX3 204 "TapePrinter" "bells" "I") (by decide +kernel)) rfl (by decide +kernel) rfl rfl (Nat.le_of_ble_eq_true rfl) dX3_obey_63 (fun H locs hI => ?_)
          obtain ⟨g10, hg10⟩ : ∃ zz, zz = va_up g8 0 (.inr (3, [.ref (ad 1), .ref (ad 6), .ref (ad 48), .int (nI rd), .int (bI fig), .int (bI uns), .int (nI came), .int mis, .int lost, .int (bel + 1)])) := ⟨_, rfl⟩
          replace hI : mI k ad N g10 (mA ad N s.heap.size) s H locs := by rw [hg10]; exact hI
          have m_46 : g10 0 = .inr (3, [.ref (ad 1), .ref (ad 6), .ref (ad 48), .int (nI rd), .int (bI fig), .int (bI uns), .int (nI came), .int mis, .int lost, .int (bel + 1)]) := by rw [hg10, va_up_self]
          have m_47 : g10 1 = .inr (2, [.ref (ad 2), .ref (ad 4), .int (nI play)]) := by rw [hg10, va_up_ne _ _ (by omega)]; exact m_37
          have m_48 : g10 48 = .inr (0, [.ref (ad 49), .int (nI n)]) := by rw [hg10, va_up_ne _ _ (by omega)]; exact m_38
          have m_49 : g10 49 = .inl (k.2.1.1, 120, .inl (fun j => nI (T j))) := by rw [hg10, va_up_ne _ _ (by omega)]; exact m_39
          have m_50 : g10 6 = .inr (1, [.ref (ad 7), .int (nI fi), .int (nI u)]) := by rw [hg10, va_up_ne _ _ (by omega)]; exact m_40
          refine lv_aload_n hx hb dX3_obey_66 rfl (lv_at hl 1 rfl) ?_
          refine lv_aload_n hx hb dX3_obey_67 rfl (lv_at hl 1 rfl) ?_
          refine lv_iload_n hx hb dX3_obey_68 rfl (lv_at hl 2 rfl) ?_
          refine lv_aload_n hx hb dX3_obey_69 rfl (lv_at hl 1 rfl) ?_
          refine m_get (ci := 3) (C := RX3) (T := TX3) (N' := 10) hx hb hts (by decide +kernel) hown hE hI 0 (by omega) m_46 rfl 4 (by decide) (hts (.fieldLink RX3 61 "TapePrinter" "figures" "Z") (by decide +kernel)) rfl dX3_obey_70 ?_
          refine m_callVi (As := [.int (nI co), .int (bI fig)]) (rest := [.ref (ad 0)]) ⟨hx, hb, hml, hown, hts⟩ hE hI (c_X3_figuresBehind k l ad N g10 _ rd fig uns came mis lost (bel + 1)  co fig (by omega) m_46  (by omega)) (cwV 2 hts gX3_obey_X3_figuresBehind rfl rfl rfl (by decide +kernel) ⟨Nat.le_of_ble_eq_true rfl, Nat.le_of_ble_eq_true rfl⟩) (i := 0) (by omega) m_46 rfl rfl hl.1 rfl (Nat.le_of_ble_eq_true rfl) dX3_obey_73 ⟨Nat.le_of_ble_eq_true rfl, Nat.le_of_ble_eq_true rfl⟩ (m_deti (fun H locs hI => ?_))
          refine m_put (ci := 3) (C := RX3) (T := TX3) (N' := 10) (ty := .boolean) hx hb hts (by decide +kernel) tyX3 tyX3_ok nmX3 hown hE hI 0 (by omega) m_46 rfl 4 (by decide) (hts (.fieldLink RX3 61 "TapePrinter" "figures" "Z") (by decide +kernel)) rfl (by decide +kernel) (bI_nar _) (bI_fit _) (Nat.le_of_ble_eq_true rfl) dX3_obey_76 (fun H locs hI => ?_)
          obtain ⟨g11, hg11⟩ : ∃ zz, zz = va_up g10 0 (.inr (3, [.ref (ad 1), .ref (ad 6), .ref (ad 48), .int (nI rd), .int (bI (fb uns co fig)), .int (bI uns), .int (nI came), .int mis, .int lost, .int (bel + 1)])) := ⟨_, rfl⟩
          replace hI : mI k ad N g11 (mA ad N s.heap.size) s H locs := by rw [hg11]; exact hI
          have m_51 : g11 0 = .inr (3, [.ref (ad 1), .ref (ad 6), .ref (ad 48), .int (nI rd), .int (bI (fb uns co fig)), .int (bI uns), .int (nI came), .int mis, .int lost, .int (bel + 1)]) := by rw [hg11, va_up_self]
          have m_52 : g11 1 = .inr (2, [.ref (ad 2), .ref (ad 4), .int (nI play)]) := by rw [hg11, va_up_ne _ _ (by omega)]; exact m_47
          have m_53 : g11 48 = .inr (0, [.ref (ad 49), .int (nI n)]) := by rw [hg11, va_up_ne _ _ (by omega)]; exact m_48
          have m_54 : g11 49 = .inl (k.2.1.1, 120, .inl (fun j => nI (T j))) := by rw [hg11, va_up_ne _ _ (by omega)]; exact m_49
          have m_55 : g11 6 = .inr (1, [.ref (ad 7), .int (nI fi), .int (nI u)]) := by rw [hg11, va_up_ne _ _ (by omega)]; exact m_50
          have hy : yOb cNl cFull cAdd uns co (came, mis, lost, bel, fig, fi, u, z, F) = (came, mis, lost, bel + 1, fb uns co fig, (fi, u, va_up z (slt fi (u - 1)) (z (slt fi (u - 1)) + 1), va_up F (slt fi (u - 1)) (va_up (F (slt fi (u - 1))) (z (slt fi (u - 1))) (chF co fig)))) := by
            show (came, mis, lOb cFull (chF co fig) (fi, u, z, F) lost, (if co = 8 then bel + 1 else bel), fb uns co fig, pOb cNl cFull cAdd (chF co fig) (fi, u, z, F)) = _
            rw [hpo, hlo2, if_pos c_53]
          have hk9 : ∀ i, i ≠ 0 → g11 i = g8 i := fun i hi => by rw [hg11, va_up_ne _ _ hi, hg10, va_up_ne _ _ hi]
          have hS9 : CSh k ad g11 fi u (va_up z (slt fi (u - 1)) (z (slt fi (u - 1)) + 1)) (va_up F (slt fi (u - 1)) (va_up (F (slt fi (u - 1))) (z (slt fi (u - 1))) (chF co fig))) r := hSg8.kept (fun i h1 h2 => hk9 i (by omega))
          have hk8 : ∀ i, (1 ≤ i ∧ i < 6) ∨ 48 ≤ i → g11 i = g i := fun i hi => by rw [hk9 i (by omega)]; exact hkg8 i (by omega)
          exact m_vret hx hb hr hlocks hI (⟨by rw [hy]; exact ⟨m_51, hWi.kept (fun i h1 h2 => hk8 i (by omega)), hS9, ⟨m_53, m_54⟩⟩, fun i hi => hk8 i (by omega)⟩) dX3_obey_79
  · by_cases hlo : u < 20
    · have hpo : pOb cNl cFull cAdd (chF co fig) (fi, u, z, F) = (fi, u + 1, va_up z (slt fi u) 0, F) := by unfold pOb cNl; rw [if_pos c_12]; simp only []; rw [if_pos hlo]
      have hlo2 : lOb cFull (chF co fig) (fi, u, z, F) lost = lost := by unfold lOb; rw [if_pos c_12]
      refine lv_aload_n hx hb dX3_obey_15 rfl (lv_at hl 1 rfl) ?_
      refine m_get (ci := 3) (C := RX3) (T := TX3) (N' := 10) hx hb hts (by decide +kernel) hown hE hI 0 (by omega) h0 rfl 1 (by decide) (hts (.fieldLink RX3 19 "TapePrinter" "sheet" "LTapePrinter$Sheet;") (by decide +kernel)) rfl dX3_obey_16 ?_
      refine m_callVv (As := []) (rest := []) ⟨hx, hb, hml, hown, hts⟩ hE hI (c_X1_beginLine_lo k l ad N g _ fi u z F r (by omega) hfi hu hu0 hSh (by omega)) (cwV 0 hts gX3_obey_X1_beginLine rfl rfl rfl (by decide +kernel) ⟨Nat.le_of_ble_eq_true rfl, Nat.le_of_ble_eq_true rfl⟩) (i := 6) (by omega) h6 rfl rfl hl.1 rfl (Nat.le_of_ble_eq_true rfl) dX3_obey_19 ⟨Nat.le_of_ble_eq_true rfl, Nat.le_of_ble_eq_true rfl⟩ (fun g9 H locs hp hI => ?_)
      obtain ⟨hSg12, hkg12⟩ := hp
      have hI : mI k ad N g9 (mA ad N s.heap.size) s H locs := hI
      obtain ⟨g12, hg12⟩ : ∃ zz, zz = g9 := ⟨_, rfl⟩
      rw [← hg12] at hI hSg12 hkg12
      have m_56 : g12 0 = .inr (3, [.ref (ad 1), .ref (ad 6), .ref (ad 48), .int (nI rd), .int (bI fig), .int (bI uns), .int (nI came), .int mis, .int lost, .int bel]) := by rw [hkg12 _ (by omega)]; exact h0
      have m_57 : g12 1 = .inr (2, [.ref (ad 2), .ref (ad 4), .int (nI play)]) := by rw [hkg12 _ (by omega)]; exact h1
      have m_58 : g12 48 = .inr (0, [.ref (ad 49), .int (nI n)]) := by rw [hkg12 _ (by omega)]; exact h48
      have m_59 : g12 49 = .inl (k.2.1.1, 120, .inl (fun j => nI (T j))) := by rw [hkg12 _ (by omega)]; exact h49
      have m_60 : g12 6 = .inr (1, [.ref (ad 7), .int (nI fi), .int (nI (u + 1))]) := hSg12.1
      refine lv_goto (tgt := 50) hx hb dX3_obey_22 (by decide) ?_
      refine lv_iload_n hx hb dX3_obey_50 rfl (lv_at hl 2 rfl) ?_
      refine lv_bipush (v := nI 8) hx hb dX3_obey_51 (by decide) ?_
      refine m_cneN (tgt := 66) hx hb (by omega) (by omega) dX3_obey_53 (by decide) (fun c_53 => ?_) (fun c_53 => ?_)
      · refine lv_aload_n hx hb dX3_obey_66 rfl (lv_at hl 1 rfl) ?_
        refine lv_aload_n hx hb dX3_obey_67 rfl (lv_at hl 1 rfl) ?_
        refine lv_iload_n hx hb dX3_obey_68 rfl (lv_at hl 2 rfl) ?_
        refine lv_aload_n hx hb dX3_obey_69 rfl (lv_at hl 1 rfl) ?_
        refine m_get (ci := 3) (C := RX3) (T := TX3) (N' := 10) hx hb hts (by decide +kernel) hown hE hI 0 (by omega) m_56 rfl 4 (by decide) (hts (.fieldLink RX3 61 "TapePrinter" "figures" "Z") (by decide +kernel)) rfl dX3_obey_70 ?_
        refine m_callVi (As := [.int (nI co), .int (bI fig)]) (rest := [.ref (ad 0)]) ⟨hx, hb, hml, hown, hts⟩ hE hI (c_X3_figuresBehind k l ad N g12 _ rd fig uns came mis lost bel  co fig (by omega) m_56  (by omega)) (cwV 2 hts gX3_obey_X3_figuresBehind rfl rfl rfl (by decide +kernel) ⟨Nat.le_of_ble_eq_true rfl, Nat.le_of_ble_eq_true rfl⟩) (i := 0) (by omega) m_56 rfl rfl hl.1 rfl (Nat.le_of_ble_eq_true rfl) dX3_obey_73 ⟨Nat.le_of_ble_eq_true rfl, Nat.le_of_ble_eq_true rfl⟩ (m_deti (fun H locs hI => ?_))
        refine m_put (ci := 3) (C := RX3) (T := TX3) (N' := 10) (ty := .boolean) hx hb hts (by decide +kernel) tyX3 tyX3_ok nmX3 hown hE hI 0 (by omega) m_56 rfl 4 (by decide) (hts (.fieldLink RX3 61 "TapePrinter" "figures" "Z") (by decide +kernel)) rfl (by decide +kernel) (bI_nar _) (bI_fit _) (Nat.le_of_ble_eq_true rfl) dX3_obey_76 (fun H locs hI => ?_)
        obtain ⟨g13, hg13⟩ : ∃ zz, zz = va_up g12 0 (.inr (3, [.ref (ad 1), .ref (ad 6), .ref (ad 48), .int (nI rd), .int (bI (fb uns co fig)), .int (bI uns), .int (nI came), .int mis, .int lost, .int bel])) := ⟨_, rfl⟩
        replace hI : mI k ad N g13 (mA ad N s.heap.size) s H locs := by rw [hg13]; exact hI
        have m_61 : g13 0 = .inr (3, [.ref (ad 1), .ref (ad 6), .ref (ad 48), .int (nI rd), .int (bI (fb uns co fig)), .int (bI uns), .int (nI came), .int mis, .int lost, .int bel]) := by rw [hg13, va_up_self]
        have m_62 : g13 1 = .inr (2, [.ref (ad 2), .ref (ad 4), .int (nI play)]) := by rw [hg13, va_up_ne _ _ (by omega)]; exact m_57
        have m_63 : g13 48 = .inr (0, [.ref (ad 49), .int (nI n)]) := by rw [hg13, va_up_ne _ _ (by omega)]; exact m_58
        have m_64 : g13 49 = .inl (k.2.1.1, 120, .inl (fun j => nI (T j))) := by rw [hg13, va_up_ne _ _ (by omega)]; exact m_59
        have m_65 : g13 6 = .inr (1, [.ref (ad 7), .int (nI fi), .int (nI (u + 1))]) := by rw [hg13, va_up_ne _ _ (by omega)]; exact m_60
        have hy : yOb cNl cFull cAdd uns co (came, mis, lost, bel, fig, fi, u, z, F) = (came, mis, lost, bel, fb uns co fig, (fi, u + 1, va_up z (slt fi u) 0, F)) := by
          show (came, mis, lOb cFull (chF co fig) (fi, u, z, F) lost, (if co = 8 then bel + 1 else bel), fb uns co fig, pOb cNl cFull cAdd (chF co fig) (fi, u, z, F)) = _
          rw [hpo, hlo2, if_neg c_53]
        have hk9 : ∀ i, i ≠ 0 → g13 i = g12 i := fun i hi => by rw [hg13, va_up_ne _ _ hi]
        have hS9 : CSh k ad g13 fi (u + 1) (va_up z (slt fi u) 0) F r := hSg12.kept (fun i h1 h2 => hk9 i (by omega))
        have hk8 : ∀ i, (1 ≤ i ∧ i < 6) ∨ 48 ≤ i → g13 i = g i := fun i hi => by rw [hk9 i (by omega)]; exact hkg12 i (by omega)
        exact m_vret hx hb hr hlocks hI (⟨by rw [hy]; exact ⟨m_61, hWi.kept (fun i h1 h2 => hk8 i (by omega)), hS9, ⟨m_63, m_64⟩⟩, fun i hi => hk8 i (by omega)⟩) dX3_obey_79
      · refine lv_aload_n hx hb dX3_obey_56 rfl (lv_at hl 1 rfl) ?_
        refine lv_dup hx hb dX3_obey_57 rfl ?_
        refine m_get (ci := 3) (C := RX3) (T := TX3) (N' := 10) hx hb hts (by decide +kernel) hown hE hI 0 (by omega) m_56 rfl 9 (by decide) (hts (.fieldLink RX3 204 "TapePrinter" "bells" "I") (by decide +kernel)) rfl dX3_obey_58 ?_
        refine lv_iconst (v := nI 1) hx hb dX3_obey_61 (by decide) ?_
        refine lv_iadd hx hb dX3_obey_62 ?_
        refine m_top (show bel + (nI 1) = bel + 1 from rfl) ?_
        refine m_put (ci := 3) (C := RX3) (T := TX3) (N' := 10) (ty := .int) hx hb hts (by decide +kernel) tyX3 tyX3_ok nmX3 hown hE hI 0 (by omega) m_56 rfl 9 (by decide) (hts (.fieldLink RX3 204 "TapePrinter" "bells" "I") (by decide +kernel)) rfl (by decide +kernel) rfl rfl (Nat.le_of_ble_eq_true rfl) dX3_obey_63 (fun H locs hI => ?_)
        obtain ⟨g14, hg14⟩ : ∃ zz, zz = va_up g12 0 (.inr (3, [.ref (ad 1), .ref (ad 6), .ref (ad 48), .int (nI rd), .int (bI fig), .int (bI uns), .int (nI came), .int mis, .int lost, .int (bel + 1)])) := ⟨_, rfl⟩
        replace hI : mI k ad N g14 (mA ad N s.heap.size) s H locs := by rw [hg14]; exact hI
        have m_66 : g14 0 = .inr (3, [.ref (ad 1), .ref (ad 6), .ref (ad 48), .int (nI rd), .int (bI fig), .int (bI uns), .int (nI came), .int mis, .int lost, .int (bel + 1)]) := by rw [hg14, va_up_self]
        have m_67 : g14 1 = .inr (2, [.ref (ad 2), .ref (ad 4), .int (nI play)]) := by rw [hg14, va_up_ne _ _ (by omega)]; exact m_57
        have m_68 : g14 48 = .inr (0, [.ref (ad 49), .int (nI n)]) := by rw [hg14, va_up_ne _ _ (by omega)]; exact m_58
        have m_69 : g14 49 = .inl (k.2.1.1, 120, .inl (fun j => nI (T j))) := by rw [hg14, va_up_ne _ _ (by omega)]; exact m_59
        have m_70 : g14 6 = .inr (1, [.ref (ad 7), .int (nI fi), .int (nI (u + 1))]) := by rw [hg14, va_up_ne _ _ (by omega)]; exact m_60
        refine lv_aload_n hx hb dX3_obey_66 rfl (lv_at hl 1 rfl) ?_
        refine lv_aload_n hx hb dX3_obey_67 rfl (lv_at hl 1 rfl) ?_
        refine lv_iload_n hx hb dX3_obey_68 rfl (lv_at hl 2 rfl) ?_
        refine lv_aload_n hx hb dX3_obey_69 rfl (lv_at hl 1 rfl) ?_
        refine m_get (ci := 3) (C := RX3) (T := TX3) (N' := 10) hx hb hts (by decide +kernel) hown hE hI 0 (by omega) m_66 rfl 4 (by decide) (hts (.fieldLink RX3 61 "TapePrinter" "figures" "Z") (by decide +kernel)) rfl dX3_obey_70 ?_
        refine m_callVi (As := [.int (nI co), .int (bI fig)]) (rest := [.ref (ad 0)]) ⟨hx, hb, hml, hown, hts⟩ hE hI (c_X3_figuresBehind k l ad N g14 _ rd fig uns came mis lost (bel + 1)  co fig (by omega) m_66  (by omega)) (cwV 2 hts gX3_obey_X3_figuresBehind rfl rfl rfl (by decide +kernel) ⟨Nat.le_of_ble_eq_true rfl, Nat.le_of_ble_eq_true rfl⟩) (i := 0) (by omega) m_66 rfl rfl hl.1 rfl (Nat.le_of_ble_eq_true rfl) dX3_obey_73 ⟨Nat.le_of_ble_eq_true rfl, Nat.le_of_ble_eq_true rfl⟩ (m_deti (fun H locs hI => ?_))
        refine m_put (ci := 3) (C := RX3) (T := TX3) (N' := 10) (ty := .boolean) hx hb hts (by decide +kernel) tyX3 tyX3_ok nmX3 hown hE hI 0 (by omega) m_66 rfl 4 (by decide) (hts (.fieldLink RX3 61 "TapePrinter" "figures" "Z") (by decide +kernel)) rfl (by decide +kernel) (bI_nar _) (bI_fit _) (Nat.le_of_ble_eq_true rfl) dX3_obey_76 (fun H locs hI => ?_)
        obtain ⟨g15, hg15⟩ : ∃ zz, zz = va_up g14 0 (.inr (3, [.ref (ad 1), .ref (ad 6), .ref (ad 48), .int (nI rd), .int (bI (fb uns co fig)), .int (bI uns), .int (nI came), .int mis, .int lost, .int (bel + 1)])) := ⟨_, rfl⟩
        replace hI : mI k ad N g15 (mA ad N s.heap.size) s H locs := by rw [hg15]; exact hI
        have m_71 : g15 0 = .inr (3, [.ref (ad 1), .ref (ad 6), .ref (ad 48), .int (nI rd), .int (bI (fb uns co fig)), .int (bI uns), .int (nI came), .int mis, .int lost, .int (bel + 1)]) := by rw [hg15, va_up_self]
        have m_72 : g15 1 = .inr (2, [.ref (ad 2), .ref (ad 4), .int (nI play)]) := by rw [hg15, va_up_ne _ _ (by omega)]; exact m_67
        have m_73 : g15 48 = .inr (0, [.ref (ad 49), .int (nI n)]) := by rw [hg15, va_up_ne _ _ (by omega)]; exact m_68
        have m_74 : g15 49 = .inl (k.2.1.1, 120, .inl (fun j => nI (T j))) := by rw [hg15, va_up_ne _ _ (by omega)]; exact m_69
        have m_75 : g15 6 = .inr (1, [.ref (ad 7), .int (nI fi), .int (nI (u + 1))]) := by rw [hg15, va_up_ne _ _ (by omega)]; exact m_70
        have hy : yOb cNl cFull cAdd uns co (came, mis, lost, bel, fig, fi, u, z, F) = (came, mis, lost, bel + 1, fb uns co fig, (fi, u + 1, va_up z (slt fi u) 0, F)) := by
          show (came, mis, lOb cFull (chF co fig) (fi, u, z, F) lost, (if co = 8 then bel + 1 else bel), fb uns co fig, pOb cNl cFull cAdd (chF co fig) (fi, u, z, F)) = _
          rw [hpo, hlo2, if_pos c_53]
        have hk9 : ∀ i, i ≠ 0 → g15 i = g12 i := fun i hi => by rw [hg15, va_up_ne _ _ hi, hg14, va_up_ne _ _ hi]
        have hS9 : CSh k ad g15 fi (u + 1) (va_up z (slt fi u) 0) F r := hSg12.kept (fun i h1 h2 => hk9 i (by omega))
        have hk8 : ∀ i, (1 ≤ i ∧ i < 6) ∨ 48 ≤ i → g15 i = g i := fun i hi => by rw [hk9 i (by omega)]; exact hkg12 i (by omega)
        exact m_vret hx hb hr hlocks hI (⟨by rw [hy]; exact ⟨m_71, hWi.kept (fun i h1 h2 => hk8 i (by omega)), hS9, ⟨m_73, m_74⟩⟩, fun i hi => hk8 i (by omega)⟩) dX3_obey_79
    · have hpo : pOb cNl cFull cAdd (chF co fig) (fi, u, z, F) = (slt fi 1, u, va_up z fi 0, F) := by unfold pOb cNl; rw [if_pos c_12]; simp only []; rw [if_neg hlo]
      have hlo2 : lOb cFull (chF co fig) (fi, u, z, F) lost = lost := by unfold lOb; rw [if_pos c_12]
      refine lv_aload_n hx hb dX3_obey_15 rfl (lv_at hl 1 rfl) ?_
      refine m_get (ci := 3) (C := RX3) (T := TX3) (N' := 10) hx hb hts (by decide +kernel) hown hE hI 0 (by omega) h0 rfl 1 (by decide) (hts (.fieldLink RX3 19 "TapePrinter" "sheet" "LTapePrinter$Sheet;") (by decide +kernel)) rfl dX3_obey_16 ?_
      refine m_callVv (As := []) (rest := []) ⟨hx, hb, hml, hown, hts⟩ hE hI (c_X1_beginLine_hi k l ad N g _ fi u z F r (by omega) hfi hu hu0 hSh (by omega)) (cwV 0 hts gX3_obey_X1_beginLine rfl rfl rfl (by decide +kernel) ⟨Nat.le_of_ble_eq_true rfl, Nat.le_of_ble_eq_true rfl⟩) (i := 6) (by omega) h6 rfl rfl hl.1 rfl (Nat.le_of_ble_eq_true rfl) dX3_obey_19 ⟨Nat.le_of_ble_eq_true rfl, Nat.le_of_ble_eq_true rfl⟩ (fun g9 H locs hp hI => ?_)
      obtain ⟨hSg16, hkg16⟩ := hp
      have hI : mI k ad N g9 (mA ad N s.heap.size) s H locs := hI
      obtain ⟨g16, hg16⟩ : ∃ zz, zz = g9 := ⟨_, rfl⟩
      rw [← hg16] at hI hSg16 hkg16
      have m_76 : g16 0 = .inr (3, [.ref (ad 1), .ref (ad 6), .ref (ad 48), .int (nI rd), .int (bI fig), .int (bI uns), .int (nI came), .int mis, .int lost, .int bel]) := by rw [hkg16 _ (by omega)]; exact h0
      have m_77 : g16 1 = .inr (2, [.ref (ad 2), .ref (ad 4), .int (nI play)]) := by rw [hkg16 _ (by omega)]; exact h1
      have m_78 : g16 48 = .inr (0, [.ref (ad 49), .int (nI n)]) := by rw [hkg16 _ (by omega)]; exact h48
      have m_79 : g16 49 = .inl (k.2.1.1, 120, .inl (fun j => nI (T j))) := by rw [hkg16 _ (by omega)]; exact h49
      have m_80 : g16 6 = .inr (1, [.ref (ad 7), .int (nI (slt fi 1)), .int (nI u)]) := hSg16.1
      refine lv_goto (tgt := 50) hx hb dX3_obey_22 (by decide) ?_
      refine lv_iload_n hx hb dX3_obey_50 rfl (lv_at hl 2 rfl) ?_
      refine lv_bipush (v := nI 8) hx hb dX3_obey_51 (by decide) ?_
      refine m_cneN (tgt := 66) hx hb (by omega) (by omega) dX3_obey_53 (by decide) (fun c_53 => ?_) (fun c_53 => ?_)
      · refine lv_aload_n hx hb dX3_obey_66 rfl (lv_at hl 1 rfl) ?_
        refine lv_aload_n hx hb dX3_obey_67 rfl (lv_at hl 1 rfl) ?_
        refine lv_iload_n hx hb dX3_obey_68 rfl (lv_at hl 2 rfl) ?_
        refine lv_aload_n hx hb dX3_obey_69 rfl (lv_at hl 1 rfl) ?_
        refine m_get (ci := 3) (C := RX3) (T := TX3) (N' := 10) hx hb hts (by decide +kernel) hown hE hI 0 (by omega) m_76 rfl 4 (by decide) (hts (.fieldLink RX3 61 "TapePrinter" "figures" "Z") (by decide +kernel)) rfl dX3_obey_70 ?_
        refine m_callVi (As := [.int (nI co), .int (bI fig)]) (rest := [.ref (ad 0)]) ⟨hx, hb, hml, hown, hts⟩ hE hI (c_X3_figuresBehind k l ad N g16 _ rd fig uns came mis lost bel  co fig (by omega) m_76  (by omega)) (cwV 2 hts gX3_obey_X3_figuresBehind rfl rfl rfl (by decide +kernel) ⟨Nat.le_of_ble_eq_true rfl, Nat.le_of_ble_eq_true rfl⟩) (i := 0) (by omega) m_76 rfl rfl hl.1 rfl (Nat.le_of_ble_eq_true rfl) dX3_obey_73 ⟨Nat.le_of_ble_eq_true rfl, Nat.le_of_ble_eq_true rfl⟩ (m_deti (fun H locs hI => ?_))
        refine m_put (ci := 3) (C := RX3) (T := TX3) (N' := 10) (ty := .boolean) hx hb hts (by decide +kernel) tyX3 tyX3_ok nmX3 hown hE hI 0 (by omega) m_76 rfl 4 (by decide) (hts (.fieldLink RX3 61 "TapePrinter" "figures" "Z") (by decide +kernel)) rfl (by decide +kernel) (bI_nar _) (bI_fit _) (Nat.le_of_ble_eq_true rfl) dX3_obey_76 (fun H locs hI => ?_)
        obtain ⟨g17, hg17⟩ : ∃ zz, zz = va_up g16 0 (.inr (3, [.ref (ad 1), .ref (ad 6), .ref (ad 48), .int (nI rd), .int (bI (fb uns co fig)), .int (bI uns), .int (nI came), .int mis, .int lost, .int bel])) := ⟨_, rfl⟩
        replace hI : mI k ad N g17 (mA ad N s.heap.size) s H locs := by rw [hg17]; exact hI
        have m_81 : g17 0 = .inr (3, [.ref (ad 1), .ref (ad 6), .ref (ad 48), .int (nI rd), .int (bI (fb uns co fig)), .int (bI uns), .int (nI came), .int mis, .int lost, .int bel]) := by rw [hg17, va_up_self]
        have m_82 : g17 1 = .inr (2, [.ref (ad 2), .ref (ad 4), .int (nI play)]) := by rw [hg17, va_up_ne _ _ (by omega)]; exact m_77
        have m_83 : g17 48 = .inr (0, [.ref (ad 49), .int (nI n)]) := by rw [hg17, va_up_ne _ _ (by omega)]; exact m_78
        have m_84 : g17 49 = .inl (k.2.1.1, 120, .inl (fun j => nI (T j))) := by rw [hg17, va_up_ne _ _ (by omega)]; exact m_79
        have m_85 : g17 6 = .inr (1, [.ref (ad 7), .int (nI (slt fi 1)), .int (nI u)]) := by rw [hg17, va_up_ne _ _ (by omega)]; exact m_80
        have hy : yOb cNl cFull cAdd uns co (came, mis, lost, bel, fig, fi, u, z, F) = (came, mis, lost, bel, fb uns co fig, (slt fi 1, u, va_up z fi 0, F)) := by
          show (came, mis, lOb cFull (chF co fig) (fi, u, z, F) lost, (if co = 8 then bel + 1 else bel), fb uns co fig, pOb cNl cFull cAdd (chF co fig) (fi, u, z, F)) = _
          rw [hpo, hlo2, if_neg c_53]
        have hk9 : ∀ i, i ≠ 0 → g17 i = g16 i := fun i hi => by rw [hg17, va_up_ne _ _ hi]
        have hS9 : CSh k ad g17 (slt fi 1) u (va_up z fi 0) F r := hSg16.kept (fun i h1 h2 => hk9 i (by omega))
        have hk8 : ∀ i, (1 ≤ i ∧ i < 6) ∨ 48 ≤ i → g17 i = g i := fun i hi => by rw [hk9 i (by omega)]; exact hkg16 i (by omega)
        exact m_vret hx hb hr hlocks hI (⟨by rw [hy]; exact ⟨m_81, hWi.kept (fun i h1 h2 => hk8 i (by omega)), hS9, ⟨m_83, m_84⟩⟩, fun i hi => hk8 i (by omega)⟩) dX3_obey_79
      · refine lv_aload_n hx hb dX3_obey_56 rfl (lv_at hl 1 rfl) ?_
        refine lv_dup hx hb dX3_obey_57 rfl ?_
        refine m_get (ci := 3) (C := RX3) (T := TX3) (N' := 10) hx hb hts (by decide +kernel) hown hE hI 0 (by omega) m_76 rfl 9 (by decide) (hts (.fieldLink RX3 204 "TapePrinter" "bells" "I") (by decide +kernel)) rfl dX3_obey_58 ?_
        refine lv_iconst (v := nI 1) hx hb dX3_obey_61 (by decide) ?_
        refine lv_iadd hx hb dX3_obey_62 ?_
        refine m_top (show bel + (nI 1) = bel + 1 from rfl) ?_
        refine m_put (ci := 3) (C := RX3) (T := TX3) (N' := 10) (ty := .int) hx hb hts (by decide +kernel) tyX3 tyX3_ok nmX3 hown hE hI 0 (by omega) m_76 rfl 9 (by decide) (hts (.fieldLink RX3 204 "TapePrinter" "bells" "I") (by decide +kernel)) rfl (by decide +kernel) rfl rfl (Nat.le_of_ble_eq_true rfl) dX3_obey_63 (fun H locs hI => ?_)
        obtain ⟨g18, hg18⟩ : ∃ zz, zz = va_up g16 0 (.inr (3, [.ref (ad 1), .ref (ad 6), .ref (ad 48), .int (nI rd), .int (bI fig), .int (bI uns), .int (nI came), .int mis, .int lost, .int (bel + 1)])) := ⟨_, rfl⟩
        replace hI : mI k ad N g18 (mA ad N s.heap.size) s H locs := by rw [hg18]; exact hI
        have m_86 : g18 0 = .inr (3, [.ref (ad 1), .ref (ad 6), .ref (ad 48), .int (nI rd), .int (bI fig), .int (bI uns), .int (nI came), .int mis, .int lost, .int (bel + 1)]) := by rw [hg18, va_up_self]
        have m_87 : g18 1 = .inr (2, [.ref (ad 2), .ref (ad 4), .int (nI play)]) := by rw [hg18, va_up_ne _ _ (by omega)]; exact m_77
        have m_88 : g18 48 = .inr (0, [.ref (ad 49), .int (nI n)]) := by rw [hg18, va_up_ne _ _ (by omega)]; exact m_78
        have m_89 : g18 49 = .inl (k.2.1.1, 120, .inl (fun j => nI (T j))) := by rw [hg18, va_up_ne _ _ (by omega)]; exact m_79
        have m_90 : g18 6 = .inr (1, [.ref (ad 7), .int (nI (slt fi 1)), .int (nI u)]) := by rw [hg18, va_up_ne _ _ (by omega)]; exact m_80
        refine lv_aload_n hx hb dX3_obey_66 rfl (lv_at hl 1 rfl) ?_
        refine lv_aload_n hx hb dX3_obey_67 rfl (lv_at hl 1 rfl) ?_
        refine lv_iload_n hx hb dX3_obey_68 rfl (lv_at hl 2 rfl) ?_
        refine lv_aload_n hx hb dX3_obey_69 rfl (lv_at hl 1 rfl) ?_
        refine m_get (ci := 3) (C := RX3) (T := TX3) (N' := 10) hx hb hts (by decide +kernel) hown hE hI 0 (by omega) m_86 rfl 4 (by decide) (hts (.fieldLink RX3 61 "TapePrinter" "figures" "Z") (by decide +kernel)) rfl dX3_obey_70 ?_
        refine m_callVi (As := [.int (nI co), .int (bI fig)]) (rest := [.ref (ad 0)]) ⟨hx, hb, hml, hown, hts⟩ hE hI (c_X3_figuresBehind k l ad N g18 _ rd fig uns came mis lost (bel + 1)  co fig (by omega) m_86  (by omega)) (cwV 2 hts gX3_obey_X3_figuresBehind rfl rfl rfl (by decide +kernel) ⟨Nat.le_of_ble_eq_true rfl, Nat.le_of_ble_eq_true rfl⟩) (i := 0) (by omega) m_86 rfl rfl hl.1 rfl (Nat.le_of_ble_eq_true rfl) dX3_obey_73 ⟨Nat.le_of_ble_eq_true rfl, Nat.le_of_ble_eq_true rfl⟩ (m_deti (fun H locs hI => ?_))
        refine m_put (ci := 3) (C := RX3) (T := TX3) (N' := 10) (ty := .boolean) hx hb hts (by decide +kernel) tyX3 tyX3_ok nmX3 hown hE hI 0 (by omega) m_86 rfl 4 (by decide) (hts (.fieldLink RX3 61 "TapePrinter" "figures" "Z") (by decide +kernel)) rfl (by decide +kernel) (bI_nar _) (bI_fit _) (Nat.le_of_ble_eq_true rfl) dX3_obey_76 (fun H locs hI => ?_)
        obtain ⟨g19, hg19⟩ : ∃ zz, zz = va_up g18 0 (.inr (3, [.ref (ad 1), .ref (ad 6), .ref (ad 48), .int (nI rd), .int (bI (fb uns co fig)), .int (bI uns), .int (nI came), .int mis, .int lost, .int (bel + 1)])) := ⟨_, rfl⟩
        replace hI : mI k ad N g19 (mA ad N s.heap.size) s H locs := by rw [hg19]; exact hI
        have m_91 : g19 0 = .inr (3, [.ref (ad 1), .ref (ad 6), .ref (ad 48), .int (nI rd), .int (bI (fb uns co fig)), .int (bI uns), .int (nI came), .int mis, .int lost, .int (bel + 1)]) := by rw [hg19, va_up_self]
        have m_92 : g19 1 = .inr (2, [.ref (ad 2), .ref (ad 4), .int (nI play)]) := by rw [hg19, va_up_ne _ _ (by omega)]; exact m_87
        have m_93 : g19 48 = .inr (0, [.ref (ad 49), .int (nI n)]) := by rw [hg19, va_up_ne _ _ (by omega)]; exact m_88
        have m_94 : g19 49 = .inl (k.2.1.1, 120, .inl (fun j => nI (T j))) := by rw [hg19, va_up_ne _ _ (by omega)]; exact m_89
        have m_95 : g19 6 = .inr (1, [.ref (ad 7), .int (nI (slt fi 1)), .int (nI u)]) := by rw [hg19, va_up_ne _ _ (by omega)]; exact m_90
        have hy : yOb cNl cFull cAdd uns co (came, mis, lost, bel, fig, fi, u, z, F) = (came, mis, lost, bel + 1, fb uns co fig, (slt fi 1, u, va_up z fi 0, F)) := by
          show (came, mis, lOb cFull (chF co fig) (fi, u, z, F) lost, (if co = 8 then bel + 1 else bel), fb uns co fig, pOb cNl cFull cAdd (chF co fig) (fi, u, z, F)) = _
          rw [hpo, hlo2, if_pos c_53]
        have hk9 : ∀ i, i ≠ 0 → g19 i = g16 i := fun i hi => by rw [hg19, va_up_ne _ _ hi, hg18, va_up_ne _ _ hi]
        have hS9 : CSh k ad g19 (slt fi 1) u (va_up z fi 0) F r := hSg16.kept (fun i h1 h2 => hk9 i (by omega))
        have hk8 : ∀ i, (1 ≤ i ∧ i < 6) ∨ 48 ≤ i → g19 i = g i := fun i hi => by rw [hk9 i (by omega)]; exact hkg16 i (by omega)
        exact m_vret hx hb hr hlocks hI (⟨by rw [hy]; exact ⟨m_91, hWi.kept (fun i h1 h2 => hk8 i (by omega)), hS9, ⟨m_93, m_94⟩⟩, fun i hi => hk8 i (by omega)⟩) dX3_obey_79
set_option maxHeartbeats 8000000 in
set_option maxRecDepth 100000 in
theorem c_X3_takeIn (k : mC) (l : Launch) (ad : Nat → Nat) (N : Nat) (g : Nat → va_E) (sz : Nat) (uns : Bool) (play rd n : Nat) (lat : Nat → Int32) (gar T : Nat → Nat) (came : Nat) (mis lost bel : Int32) (fig : Bool) (fi u : Nat) (z : Nat → Nat) (F : Nat → Nat → Nat) (r : Nat → Option Nat) (co : Nat) (hN : 50 ≤ N) (hW : CW play rd n lat gar T) (hwf : cWf (fi, u, z, F)) (hcame : came < 2147483640) (hC : CR k ad g uns play rd n lat gar T (came, mis, lost, bel, fig, fi, u, z, F) r) (hc : co < 32) : mCi k l yX3_takeIn wsX3_takeIn { frames := 4, cells := 0, slots := 0, locals := 85 } ad N g sz [.ref (ad 0), .int (nI co)] (fun r1 g1 => r1 = nI (rdY play lat gar came co) ∧ CR k ad g1 uns play rd n lat gar T (yIn cNl cFull cAdd uns play lat gar co (came, mis, lost, bel, fig, fi, u, z, F)) r ∧ ∀ i, 50 ≤ i → g1 i = g i) := by
  refine mOf (Qc := fun z9 => va_Qi (fun r1 g1 => r1 = nI (rdY play lat gar came co) ∧ CR k ad g1 uns play rd n lat gar T (yIn cNl cFull cAdd uns play lat gar co (came, mis, lost, bel, fig, fi, u, z, F)) r ∧ ∀ i, 50 ≤ i → g1 i = g i) (mB k ad N) (mA ad N z9)) (cc := cX3_takeIn) (maxL := 3) (ret := (some .int)) (by decide) rfl (Nat.le_of_ble_eq_true rfl) ?_
  intro p e s m below meth c hx hb hr hts hown hlocks hml hin hE hI ls hl
  have hl : lv_has ls 3 [(0, .ref (ad 0)), (1, .int (nI co))] := hl
  have h0 : g 0 = .inr (3, [.ref (ad 1), .ref (ad 6), .ref (ad 48), .int (nI rd), .int (bI fig), .int (bI uns), .int (nI came), .int mis, .int lost, .int bel]) := hC.1
  have hWi : CWi k ad g play lat gar := hC.2.1
  have hSh : CSh k ad g fi u z F r := hC.2.2.1
  have h48 : g 48 = .inr (0, [.ref (ad 49), .int (nI n)]) := hC.2.2.2.1
  have h49 : g 49 = .inl (k.2.1.1, 120, .inl (fun j => nI (T j))) := hC.2.2.2.2
  have hr48 : CRow k ad g 48 120 n (fun j => nI (T j)) := ⟨h48, h49⟩
  have h1 := hWi.1
  have h6 : g 6 = .inr (1, [.ref (ad 7), .int (nI fi), .int (nI u)]) := hSh.1
  obtain ⟨hplay, hrd, hn, hgar, hT, hlat⟩ := id hW
  have hfi : fi < 20 := hwf.1
  have hu0 : 0 < u := hwf.2.1
  have hu : u ≤ 20 := hwf.2.2
  refine lv_aload_n hx hb dX3_takeIn_0 rfl (lv_at hl 0 rfl) ?_
  refine m_get (ci := 3) (C := RX3) (T := TX3) (N' := 10) hx hb hts (by decide +kernel) hown hE hI 0 (by omega) h0 rfl 0 (by decide) (hts (.fieldLink RX3 10 "TapePrinter" "wire" "LTapePrinter$Wire;") (by decide +kernel)) rfl dX3_takeIn_1 ?_
  refine lv_iload_n hx hb dX3_takeIn_4 rfl (lv_at hl 1 rfl) ?_
  refine lv_aload_n hx hb dX3_takeIn_5 rfl (lv_at hl 0 rfl) ?_
  refine m_get (ci := 3) (C := RX3) (T := TX3) (N' := 10) hx hb hts (by decide +kernel) hown hE hI 0 (by omega) h0 rfl 6 (by decide) (hts (.fieldLink RX3 158 "TapePrinter" "came" "I") (by decide +kernel)) rfl dX3_takeIn_6 ?_
  refine m_callVi (As := [.int (nI co), .int (nI came)]) (rest := []) ⟨hx, hb, hml, hown, hts⟩ hE hI (c_X2_readAs k l ad N g _ play lat gar co came (by omega) hWi (by omega) (by omega) hgar) (cwV 2 hts gX3_takeIn_X2_readAs rfl rfl rfl (by decide +kernel) ⟨Nat.le_of_ble_eq_true rfl, Nat.le_of_ble_eq_true rfl⟩) (i := 1) (by omega) h1 rfl rfl hl.1 rfl (Nat.le_of_ble_eq_true rfl) dX3_takeIn_9 ⟨Nat.le_of_ble_eq_true rfl, Nat.le_of_ble_eq_true rfl⟩ (m_deti (fun H locs hI => ?_))
  have hrl := rdF_lt (play := play) (lt := lat (came % 16)) hc (hgar (came % 16) (Nat.mod_lt _ (by omega)))
  refine lv_istore_n (lv' := [(2, .int (nI (rdF play (lat (came % 16)) (gar (came % 16)) co))), (0, .ref (ad 0)), (1, .int (nI co))]) hx hb dX3_takeIn_12 rfl hl (by decide) rfl (fun ls hl => ?_)
  refine lv_aload_n hx hb dX3_takeIn_13 rfl (lv_at hl 1 rfl) ?_
  refine lv_dup hx hb dX3_takeIn_14 rfl ?_
  refine m_get (ci := 3) (C := RX3) (T := TX3) (N' := 10) hx hb hts (by decide +kernel) hown hE hI 0 (by omega) h0 rfl 6 (by decide) (hts (.fieldLink RX3 158 "TapePrinter" "came" "I") (by decide +kernel)) rfl dX3_takeIn_15 ?_
  refine lv_iconst (v := nI 1) hx hb dX3_takeIn_18 (by decide) ?_
  refine m_iaddN hx hb dX3_takeIn_19 ?_
  refine m_put (ci := 3) (C := RX3) (T := TX3) (N' := 10) (ty := .int) hx hb hts (by decide +kernel) tyX3 tyX3_ok nmX3 hown hE hI 0 (by omega) h0 rfl 6 (by decide) (hts (.fieldLink RX3 158 "TapePrinter" "came" "I") (by decide +kernel)) rfl (by decide +kernel) rfl rfl (Nat.le_of_ble_eq_true rfl) dX3_takeIn_20 (fun H locs hI => ?_)
  obtain ⟨g1, hg1⟩ : ∃ zz, zz = va_up g 0 (.inr (3, [.ref (ad 1), .ref (ad 6), .ref (ad 48), .int (nI rd), .int (bI fig), .int (bI uns), .int (nI (came + 1)), .int mis, .int lost, .int bel])) := ⟨_, rfl⟩
  replace hI : mI k ad N g1 (mA ad N s.heap.size) s H locs := by rw [hg1]; exact hI
  have m_1 : g1 0 = .inr (3, [.ref (ad 1), .ref (ad 6), .ref (ad 48), .int (nI rd), .int (bI fig), .int (bI uns), .int (nI (came + 1)), .int mis, .int lost, .int bel]) := by rw [hg1, va_up_self]
  have m_2 : g1 1 = .inr (2, [.ref (ad 2), .ref (ad 4), .int (nI play)]) := by rw [hg1, va_up_ne _ _ (by omega)]; exact h1
  have m_3 : g1 48 = .inr (0, [.ref (ad 49), .int (nI n)]) := by rw [hg1, va_up_ne _ _ (by omega)]; exact h48
  have m_4 : g1 49 = .inl (k.2.1.1, 120, .inl (fun j => nI (T j))) := by rw [hg1, va_up_ne _ _ (by omega)]; exact h49
  have m_5 : g1 6 = .inr (1, [.ref (ad 7), .int (nI fi), .int (nI u)]) := by rw [hg1, va_up_ne _ _ (by omega)]; exact h6
  refine lv_iload_n hx hb dX3_takeIn_23 rfl (lv_at hl 0 rfl) ?_
  refine lv_iload_n hx hb dX3_takeIn_24 rfl (lv_at hl 2 rfl) ?_
  refine m_ceqN (tgt := 38) hx hb (by omega) (by omega) dX3_takeIn_25 (by decide) (fun c_25 => ?_) (fun c_25 => ?_)
  · refine lv_aload_n hx hb dX3_takeIn_38 rfl (lv_at hl 1 rfl) ?_
    refine lv_iload_n hx hb dX3_takeIn_39 rfl (lv_at hl 0 rfl) ?_
    have hk9 : ∀ i, i ≠ 0 → g1 i = g i := fun i hi => by rw [hg1, va_up_ne _ _ hi]
    have hC9 : CR k ad g1 uns play rd n lat gar T (came + 1, mis, lost, bel, fig, fi, u, z, F) r := ⟨m_1, hWi.kept (fun i h1 h2 => hk9 i (by omega)), hSh.kept (fun i h1 h2 => hk9 i (by omega)), ⟨m_3, m_4⟩⟩
    refine m_callVv (As := [.int (nI (rdF play (lat (came % 16)) (gar (came % 16)) co))]) (rest := []) ⟨hx, hb, hml, hown, hts⟩ hE hI (c_X3_obey k l ad N g1 _ uns play rd n lat gar T (came + 1) (mis) lost bel fig fi u z F r (rdF play (lat (came % 16)) (gar (came % 16)) co) (by omega) hW hwf (by omega) hC9 (rdF_lt hc (hgar _ (Nat.mod_lt _ (by omega))))) (cwV 1 hts gX3_takeIn_X3_obey rfl rfl rfl (by decide +kernel) ⟨Nat.le_of_ble_eq_true rfl, Nat.le_of_ble_eq_true rfl⟩) (i := 0) (by omega) m_1 rfl rfl hl.1 rfl (Nat.le_of_ble_eq_true rfl) dX3_takeIn_40 ⟨Nat.le_of_ble_eq_true rfl, Nat.le_of_ble_eq_true rfl⟩ (fun g9 H locs hp hI => ?_)
    obtain ⟨hC8, hk8⟩ := hp
    refine lv_iload_n hx hb dX3_takeIn_43 rfl (lv_at hl 0 rfl) ?_
    have hy : yIn cNl cFull cAdd uns play lat gar co (came, mis, lost, bel, fig, fi, u, z, F) = yOb cNl cFull cAdd uns (rdF play (lat (came % 16)) (gar (came % 16)) co) (came + 1, mis, lost, bel, fig, fi, u, z, F) := by
      show yOb cNl cFull cAdd uns (rdF play (lat (came % 16)) (gar (came % 16)) co) (came + 1, (if rdF play (lat (came % 16)) (gar (came % 16)) co = co then mis else mis + 1), lost, bel, fig, fi, u, z, F) = _
      rw [if_pos c_25]
    exact m_iret hx hb hr hlocks hI (⟨rfl, by rw [hy]; exact hC8, fun i hi => by rw [hk8 i hi, hk9 i (by omega)]⟩) dX3_takeIn_44
  · refine lv_aload_n hx hb dX3_takeIn_28 rfl (lv_at hl 1 rfl) ?_
    refine lv_dup hx hb dX3_takeIn_29 rfl ?_
    refine m_get (ci := 3) (C := RX3) (T := TX3) (N' := 10) hx hb hts (by decide +kernel) hown hE hI 0 (by omega) m_1 rfl 7 (by decide) (hts (.fieldLink RX3 198 "TapePrinter" "misread" "I") (by decide +kernel)) rfl dX3_takeIn_30 ?_
    refine lv_iconst (v := nI 1) hx hb dX3_takeIn_33 (by decide) ?_
    refine lv_iadd hx hb dX3_takeIn_34 ?_
    refine m_top (show mis + (nI 1) = mis + 1 from rfl) ?_
    refine m_put (ci := 3) (C := RX3) (T := TX3) (N' := 10) (ty := .int) hx hb hts (by decide +kernel) tyX3 tyX3_ok nmX3 hown hE hI 0 (by omega) m_1 rfl 7 (by decide) (hts (.fieldLink RX3 198 "TapePrinter" "misread" "I") (by decide +kernel)) rfl (by decide +kernel) rfl rfl (Nat.le_of_ble_eq_true rfl) dX3_takeIn_35 (fun H locs hI => ?_)
    obtain ⟨g2, hg2⟩ : ∃ zz, zz = va_up g1 0 (.inr (3, [.ref (ad 1), .ref (ad 6), .ref (ad 48), .int (nI rd), .int (bI fig), .int (bI uns), .int (nI (came + 1)), .int (mis + 1), .int lost, .int bel])) := ⟨_, rfl⟩
    replace hI : mI k ad N g2 (mA ad N s.heap.size) s H locs := by rw [hg2]; exact hI
    have m_6 : g2 0 = .inr (3, [.ref (ad 1), .ref (ad 6), .ref (ad 48), .int (nI rd), .int (bI fig), .int (bI uns), .int (nI (came + 1)), .int (mis + 1), .int lost, .int bel]) := by rw [hg2, va_up_self]
    have m_7 : g2 1 = .inr (2, [.ref (ad 2), .ref (ad 4), .int (nI play)]) := by rw [hg2, va_up_ne _ _ (by omega)]; exact m_2
    have m_8 : g2 48 = .inr (0, [.ref (ad 49), .int (nI n)]) := by rw [hg2, va_up_ne _ _ (by omega)]; exact m_3
    have m_9 : g2 49 = .inl (k.2.1.1, 120, .inl (fun j => nI (T j))) := by rw [hg2, va_up_ne _ _ (by omega)]; exact m_4
    have m_10 : g2 6 = .inr (1, [.ref (ad 7), .int (nI fi), .int (nI u)]) := by rw [hg2, va_up_ne _ _ (by omega)]; exact m_5
    refine lv_aload_n hx hb dX3_takeIn_38 rfl (lv_at hl 1 rfl) ?_
    refine lv_iload_n hx hb dX3_takeIn_39 rfl (lv_at hl 0 rfl) ?_
    have hk9 : ∀ i, i ≠ 0 → g2 i = g i := fun i hi => by rw [hg2, va_up_ne _ _ hi, hg1, va_up_ne _ _ hi]
    have hC9 : CR k ad g2 uns play rd n lat gar T (came + 1, mis + 1, lost, bel, fig, fi, u, z, F) r := ⟨m_6, hWi.kept (fun i h1 h2 => hk9 i (by omega)), hSh.kept (fun i h1 h2 => hk9 i (by omega)), ⟨m_8, m_9⟩⟩
    refine m_callVv (As := [.int (nI (rdF play (lat (came % 16)) (gar (came % 16)) co))]) (rest := []) ⟨hx, hb, hml, hown, hts⟩ hE hI (c_X3_obey k l ad N g2 _ uns play rd n lat gar T (came + 1) (mis + 1) lost bel fig fi u z F r (rdF play (lat (came % 16)) (gar (came % 16)) co) (by omega) hW hwf (by omega) hC9 (rdF_lt hc (hgar _ (Nat.mod_lt _ (by omega))))) (cwV 1 hts gX3_takeIn_X3_obey rfl rfl rfl (by decide +kernel) ⟨Nat.le_of_ble_eq_true rfl, Nat.le_of_ble_eq_true rfl⟩) (i := 0) (by omega) m_6 rfl rfl hl.1 rfl (Nat.le_of_ble_eq_true rfl) dX3_takeIn_40 ⟨Nat.le_of_ble_eq_true rfl, Nat.le_of_ble_eq_true rfl⟩ (fun g9 H locs hp hI => ?_)
    obtain ⟨hC8, hk8⟩ := hp
    refine lv_iload_n hx hb dX3_takeIn_43 rfl (lv_at hl 0 rfl) ?_
    have hy : yIn cNl cFull cAdd uns play lat gar co (came, mis, lost, bel, fig, fi, u, z, F) = yOb cNl cFull cAdd uns (rdF play (lat (came % 16)) (gar (came % 16)) co) (came + 1, mis + 1, lost, bel, fig, fi, u, z, F) := by
      show yOb cNl cFull cAdd uns (rdF play (lat (came % 16)) (gar (came % 16)) co) (came + 1, (if rdF play (lat (came % 16)) (gar (came % 16)) co = co then mis else mis + 1), lost, bel, fig, fi, u, z, F) = _
      rw [if_neg c_25]
    exact m_iret hx hb hr hlocks hI (⟨rfl, by rw [hy]; exact hC8, fun i hi => by rw [hk8 i hi, hk9 i (by omega)]⟩) dX3_takeIn_44
set_option maxHeartbeats 8000000 in
set_option maxRecDepth 100000 in
theorem c_X3_character (k : mC) (l : Launch) (hst : l.stackTraces = false) (ad : Nat → Nat) (N : Nat) (g : Nat → va_E) (sz : Nat) (uns : Bool) (play rd n : Nat) (lat : Nat → Int32) (gar T : Nat → Nat) (came : Nat) (mis lost bel : Int32) (fig : Bool) (fi u : Nat) (z : Nat → Nat) (F : Nat → Nat → Nat) (r : Nat → Option Nat) (p0 : Int32) (b0 : Bool) (hN : 50 ≤ N) (hW : CW play rd n lat gar T) (hwf : cWf (fi, u, z, F)) (hcame : came < 2000000000) (hC : CR k ad g uns play rd n lat gar T (came, mis, lost, bel, fig, fi, u, z, F) r)  : mXi k l yX3_character wsX3_character { frames := 6, cells := 1, slots := 6, locals := 82 } ad N g sz [.ref (ad 0), .int p0, .int (bI b0)] (fun r1 g1 => inN p0 32 = true ∧ r1 = nI (chF (tn p0) b0) ∧ g1 = g) (fun E => E = "java/lang/IndexOutOfBoundsException" ∧ inN p0 32 = false) := by
  refine mOfX (cc := cX3_character) (maxL := 3) (ret := (some .int)) (by decide) rfl (Nat.le_of_ble_eq_true rfl) ?_
  intro p e s m below meth c hx hb hr hts hown hlocks hml htab hE hI ls hl
  have hl : lv_has ls 3 [(0, .ref (ad 0)), (1, .int p0), (2, .int (bI b0))] := hl
  have h0 : g 0 = .inr (3, [.ref (ad 1), .ref (ad 6), .ref (ad 48), .int (nI rd), .int (bI fig), .int (bI uns), .int (nI came), .int mis, .int lost, .int bel]) := hC.1
  have hWi : CWi k ad g play lat gar := hC.2.1
  have hSh : CSh k ad g fi u z F r := hC.2.2.1
  have h48 : g 48 = .inr (0, [.ref (ad 49), .int (nI n)]) := hC.2.2.2.1
  have h49 : g 49 = .inl (k.2.1.1, 120, .inl (fun j => nI (T j))) := hC.2.2.2.2
  have hr48 : CRow k ad g 48 120 n (fun j => nI (T j)) := ⟨h48, h49⟩
  have h1 := hWi.1
  have h6 : g 6 = .inr (1, [.ref (ad 7), .int (nI fi), .int (nI u)]) := hSh.1
  obtain ⟨hplay, hrd, hn, hgar, hT, hlat⟩ := id hW
  have hfi : fi < 20 := hwf.1
  have hu0 : 0 < u := hwf.2.1
  have hu : u ≤ 20 := hwf.2.2
  refine lv_iload_n hx hb dX3_character_0 rfl (lv_at hl 1 rfl) ?_
  refine m_callSi (As := [.int p0]) (rest := []) ⟨hx, hb, hml, hown, hts⟩ hE hI (c_X3_isCode k l ad N g _ p0 ) (va_cwS 1 hts gX3_character_X3_isCode rfl rfl rfl (by decide +kernel) ⟨Nat.le_of_ble_eq_true rfl, Nat.le_of_ble_eq_true rfl⟩) rfl hl.1 rfl (Nat.le_of_ble_eq_true rfl) dX3_character_1 ⟨Nat.le_of_ble_eq_true rfl, Nat.le_of_ble_eq_true rfl⟩ (m_deti (fun H locs hI => ?_))
  refine m_zneB (tgt := 17) hx hb dX3_character_4 (by decide) (fun c_4 => ?_) (fun c_4 => ?_)
  · obtain ⟨j, hj, rfl⟩ := inN_ex c_4 (by omega)
    have htnj := tn_nI (j := j) (by omega)
    have hl : lv_has ls 3 [(0, .ref (ad 0)), (1, .int (nI j)), (2, .int (bI b0))] := hl
    refine lv_iload_n hx hb dX3_character_17 rfl (lv_at hl 1 rfl) ?_
    refine lv_iload_n hx hb dX3_character_18 rfl (lv_at hl 2 rfl) ?_
    refine m_callSi (As := [.int (nI j), .int (bI b0)]) (rest := []) ⟨hx, hb, hml, hown, hts⟩ hE hI (c_X3_characterOf k l ad N g _ j b0 (by omega)) (va_cwS 2 hts gX3_character_X3_characterOf rfl rfl rfl (by decide +kernel) ⟨Nat.le_of_ble_eq_true rfl, Nat.le_of_ble_eq_true rfl⟩) rfl hl.1 rfl (Nat.le_of_ble_eq_true rfl) dX3_character_19 ⟨Nat.le_of_ble_eq_true rfl, Nat.le_of_ble_eq_true rfl⟩ (m_deti (fun H locs hI => ?_))
    refine vx_ret ?_
    refine W.widen (k := 1) (n := 6) (by omega) (by omega) ?_
    exact m_iret hx hb hr hlocks hI (⟨c_4, by rw [htnj], rfl⟩) dX3_character_22
  · exact m_throwS hx hb hst hown (cls := "java/lang/IndexOutOfBoundsException") (ik := 36) (is := 50) (ic := 40) x_fit36 (hts (.classLink RX3 36 "java/lang/IndexOutOfBoundsException") (by decide +kernel)) (hts (.initialized "java/lang/IndexOutOfBoundsException") (by decide +kernel)) (x_hat36 hE.1.2.2.2.2.2 (fun w h => hts w (List.mem_cons_of_mem _ (List.mem_append_right _ h)))) x_good36 (text := "no such code") (by decide) hE hI (by rw [hml]; exact hl.1) dX3_character_7 dX3_character_10 dX3_character_11 dX3_character_13 dX3_character_16 htab hlocks (by decide) (Nat.le_of_ble_eq_true rfl) (⟨rfl, c_4⟩)
/-- the units that are set -/
def pc5 (x : Nat) : Nat := x % 2 + x / 2 % 2 + x / 4 % 2 + x / 8 % 2 + x / 16 % 2
def bcE (x : Int32) : Int32 :=
  let u := fun (a b : Int32) => (a.toUInt32 >>> (b.toUInt32 &&& Int32.toUInt32 31)).toInt32
  let x1 := x - (u x (nI 1) &&& 1431655765)
  let x2 := (x1 &&& 858993459) + (u x1 (nI 2) &&& 858993459)
  let x3 := (x2 + u x2 (nI 4)) &&& 252645135
  let x4 := x3 + u x3 (nI 8)
  let x5 := x4 + u x4 (nI 16)
  x5 &&& nI 63
theorem bcE_5 : ∀ c, c < 32 → bcE (nI c) = nI (pc5 c) := by decide +kernel
theorem xor32b : ∀ a, a < 32 → ∀ b, b < 32 → nI a ^^^ nI b = nI (a ^^^ b) ∧ a ^^^ b < 32 := by decide +kernel
/-- how many of the first m units change what is printed -/
def dbt (c : Nat) (b : Bool) : Nat → Nat
  | 0 => 0
  | m + 1 => if chF (c ^^^ 2 ^ m) b = chF c b then dbt c b m else dbt c b m + 1
theorem dbt_le (c : Nat) (b : Bool) (m : Nat) : dbt c b m ≤ m := by
  induction m with
  | zero => exact Nat.le_refl _
  | succ m ih => simp only [dbt]; split <;> omega
theorem bit32 : ∀ c, c < 32 → ∀ i, i < 5 → nI c ^^^ (nI 1 <<< (nI i &&& 31)) = nI (c ^^^ 2 ^ i) ∧ c ^^^ 2 ^ i < 32 := by decide +kernel
end
section
theorem CWi.change {k : mC} {ad : Nat → Nat} {g : Nat → va_E} {play : Nat} {lat : Nat → Int32} {gar : Nat → Nat} (h : CWi k ad g play lat gar) (j : Nat) (v : Int32) (q : Nat) : CWi k ad (va_up (va_up g 3 (.inl (k.2.1.1, 16, .inl (upd lat j v)))) 5 (.inl (k.2.1.1, 16, .inl (upd (fun j => nI (gar j)) j (nI q))))) play (upd lat j v) (va_up gar j q) := by
  refine ⟨(va_up_ne _ _ (by omega)).trans ((va_up_ne _ _ (by omega)).trans h.1), ⟨(va_up_ne _ _ (by omega)).trans ((va_up_ne _ _ (by omega)).trans h.2.1.1), (va_up_ne _ _ (by omega)).trans (va_up_self _ _ _)⟩, ⟨(va_up_ne _ _ (by omega)).trans ((va_up_ne _ _ (by omega)).trans h.2.2.1), ?_⟩⟩
  rw [← upd_nI]
  exact va_up_self _ _ _
theorem CWi.play {k : mC} {ad : Nat → Nat} {g : Nat → va_E} {play : Nat} {lat : Nat → Int32} {gar : Nat → Nat} (h : CWi k ad g play lat gar) (v : Nat) : CWi k ad (va_up g 1 (.inr (2, [.ref (ad 2), .ref (ad 4), .int (nI v)]))) v lat gar :=
  ⟨va_up_self _ _ _, h.2.1.kept (va_up_ne _ _ (by omega)) (va_up_ne _ _ (by omega)), h.2.2.kept (va_up_ne _ _ (by omega)) (va_up_ne _ _ (by omega))⟩
/-- a lateness -/
def in9 (x : Int32) : Bool := decide (-9 ≤ x) && decide (x ≤ 9)
theorem in9_lo {x : Int32} (h : x < -9) : in9 x = false := by
  simp only [in9, Bool.and_eq_false_iff, decide_eq_false_iff_not]
  left; intro q; rw [Int32.le_iff_toInt_le] at q; rw [Int32.lt_iff_toInt_lt] at h; omega
theorem in9_hi {x : Int32} (h : ¬ x ≤ nI 9) : in9 x = false := by
  simp only [in9, Bool.and_eq_false_iff, decide_eq_false_iff_not]
  right; exact h
theorem in9_yes {x : Int32} (h : ¬ x < -9) (h2 : x ≤ nI 9) : in9 x = true := by
  simp only [in9, Bool.and_eq_true, decide_eq_true_eq]
  refine ⟨?_, h2⟩
  rw [Int32.le_iff_toInt_le]; rw [Int32.lt_iff_toInt_lt] at h; omega
/-- how many codes may run -/
def in120 (x : Int32) : Bool := decide (1 ≤ x) && decide (x ≤ 120)
theorem in120_lo {x : Int32} (h : x < nI 1) : in120 x = false := by
  simp only [in120, Bool.and_eq_false_iff, decide_eq_false_iff_not]
  left; intro q; rw [Int32.le_iff_toInt_le] at q; rw [Int32.lt_iff_toInt_lt] at h
  have e1 : (nI 1).toInt = (1 : Int32).toInt := by decide
  omega
theorem in120_hi {x : Int32} (h : ¬ x ≤ nI 120) : in120 x = false := by
  simp only [in120, Bool.and_eq_false_iff, decide_eq_false_iff_not]
  right; exact h
theorem in120_yes {x : Int32} (h : ¬ x < nI 1) (h2 : x ≤ nI 120) : in120 x = true := by
  simp only [in120, Bool.and_eq_true, decide_eq_true_eq]
  refine ⟨?_, h2⟩
  rw [Int32.le_iff_toInt_le]; rw [Int32.lt_iff_toInt_lt] at h
  have e1 : (nI 1).toInt = (1 : Int32).toInt := by decide
  omega
theorem in120_ex {x : Int32} (h : in120 x = true) : ∃ j : Nat, 1 ≤ j ∧ j ≤ 120 ∧ x = nI j := by
  simp only [in120, Bool.and_eq_true, decide_eq_true_eq] at h
  have h1 := h.1; have h2 := h.2
  rw [Int32.le_iff_toInt_le] at h1 h2
  have e1 : (1 : Int32).toInt = 1 := by decide
  have e2 : (120 : Int32).toInt = 120 := by decide
  obtain ⟨j, hj, rfl⟩ := nI_of (x := x) (fun q => by rw [Int32.lt_iff_toInt_lt] at q; have e0 : (0 : Int32).toInt = 0 := by decide
                                                     omega)
  rw [nI_toInt hj] at h1 h2
  exact ⟨j, by omega, by omega, rfl⟩
theorem min_nI {a b : Nat} (ha : a < 2147483648) (hb : b < 2147483648) : (if nI b < nI a then nI b else nI a) = nI (min a b) := by
  by_cases h : b < a
  · rw [if_pos ((nI_ltI hb ha).mpr h), Nat.min_eq_right (by omega)]
  · rw [if_neg (fun q => h ((nI_ltI hb ha).mp q)), Nat.min_eq_left (by omega)]
set_option maxHeartbeats 8000000 in
set_option maxRecDepth 100000 in
theorem c_X3_setLine (k : mC) (l : Launch) (hst : l.stackTraces = false) (ad : Nat → Nat) (N : Nat) (g : Nat → va_E) (sz : Nat) (uns : Bool) (play rd n : Nat) (lat : Nat → Int32) (gar T : Nat → Nat) (came : Nat) (mis lost bel : Int32) (fig : Bool) (fi u : Nat) (z : Nat → Nat) (F : Nat → Nat → Nat) (r : Nat → Option Nat) (p0 p1 p2 : Int32) (hN : 50 ≤ N) (hW : CW play rd n lat gar T) (hwf : cWf (fi, u, z, F)) (hcame : came < 2000000000) (hC : CR k ad g uns play rd n lat gar T (came, mis, lost, bel, fig, fi, u, z, F) r)  : mXi k l yX3_setLine wsX3_setLine { frames := 6, cells := 1, slots := 6, locals := 82 } ad N g sz [.ref (ad 0), .int p0, .int p1, .int p2] (fun r1 g1 => inN p0 16 = true ∧ (in9 p1 && inN p2 32) = true ∧ r1 = lat (tn p0) ∧ CR k ad g1 uns play rd n (upd lat (tn p0) p1) (va_up gar (tn p0) (tn p2)) T (came, mis, lost, bel, fig, fi, u, z, F) r ∧ ∀ i, 50 ≤ i → g1 i = g i) (fun E => (E = "java/lang/IndexOutOfBoundsException" ∧ inN p0 16 = false) ∨ (E = "java/lang/IllegalArgumentException" ∧ inN p0 16 = true ∧ (in9 p1 && inN p2 32) = false)) := by
  refine mOfX (cc := cX3_setLine) (maxL := 5) (ret := (some .int)) (by decide) rfl (Nat.le_of_ble_eq_true rfl) ?_
  intro p e s m below meth c hx hb hr hts hown hlocks hml htab hE hI ls hl
  have hl : lv_has ls 5 [(0, .ref (ad 0)), (1, .int p0), (2, .int p1), (3, .int p2)] := hl
  have h0 : g 0 = .inr (3, [.ref (ad 1), .ref (ad 6), .ref (ad 48), .int (nI rd), .int (bI fig), .int (bI uns), .int (nI came), .int mis, .int lost, .int bel]) := hC.1
  have hWi : CWi k ad g play lat gar := hC.2.1
  have hSh : CSh k ad g fi u z F r := hC.2.2.1
  have h48 : g 48 = .inr (0, [.ref (ad 49), .int (nI n)]) := hC.2.2.2.1
  have h49 : g 49 = .inl (k.2.1.1, 120, .inl (fun j => nI (T j))) := hC.2.2.2.2
  have hr48 : CRow k ad g 48 120 n (fun j => nI (T j)) := ⟨h48, h49⟩
  have h1 := hWi.1
  have h6 : g 6 = .inr (1, [.ref (ad 7), .int (nI fi), .int (nI u)]) := hSh.1
  obtain ⟨hplay, hrd, hn, hgar, hT, hlat⟩ := id hW
  have hfi : fi < 20 := hwf.1
  have hu0 : 0 < u := hwf.2.1
  have hu : u ≤ 20 := hwf.2.2
  refine lv_iload_n hx hb dX3_setLine_0 rfl (lv_at hl 1 rfl) ?_
  refine lv_if_lt (tgt := 10) hx hb dX3_setLine_1 (by decide) (fun c_1 => ?_) (fun c_1 => ?_)
  · exact m_throwS hx hb hst hown (cls := "java/lang/IndexOutOfBoundsException") (ik := 36) (is := 65) (ic := 40) x_fit36 (hts (.classLink RX3 36 "java/lang/IndexOutOfBoundsException") (by decide +kernel)) (hts (.initialized "java/lang/IndexOutOfBoundsException") (by decide +kernel)) (x_hat36 hE.1.2.2.2.2.2 (fun w h => hts w (List.mem_cons_of_mem _ (List.mem_append_left _ (List.mem_append_right _ h))))) x_good36 (text := "no such place of the table") (by decide) hE hI (by rw [hml]; exact hl.1) dX3_setLine_10 dX3_setLine_13 dX3_setLine_14 dX3_setLine_16 dX3_setLine_19 htab hlocks (by decide) (Nat.le_of_ble_eq_true rfl) (Or.inl ⟨rfl, inN_neg c_1⟩)
  · refine lv_iload_n hx hb dX3_setLine_4 rfl (lv_at hl 1 rfl) ?_
    refine lv_bipush (v := nI 16) hx hb dX3_setLine_5 (by decide) ?_
    refine lv_icmp_lt (tgt := 20) hx hb dX3_setLine_7 (by decide) (fun c_7 => ?_) (fun c_7 => ?_)
    · have hin0 : inN p0 16 = true := inN_lt c_1 c_7
      obtain ⟨j, hj, rfl⟩ := inN_ex hin0 (by omega)
      have htnj := tn_nI (j := j) (by omega)
      have hl : lv_has ls 5 [(0, .ref (ad 0)), (1, .int (nI j)), (2, .int p1), (3, .int p2)] := hl
      refine lv_iload_n hx hb dX3_setLine_20 rfl (lv_at hl 2 rfl) ?_
      refine lv_bipush (v := (-9)) hx hb dX3_setLine_21 (by decide) ?_
      refine lv_icmp_lt (tgt := 32) hx hb dX3_setLine_23 (by decide) (fun c_23 => ?_) (fun c_23 => ?_)
      · exact m_throwS hx hb hst hown (cls := "java/lang/IllegalArgumentException") (ik := 67) (is := 69) (ic := 71) x_fit67 (hts (.classLink RX3 67 "java/lang/IllegalArgumentException") (by decide +kernel)) (hts (.initialized "java/lang/IllegalArgumentException") (by decide +kernel)) (x_hat67 hE.1.2.2.2.2.2 (fun w h => hts w (List.mem_cons_of_mem _ (List.mem_append_right _ h)))) x_good67 (text := "too early or too late") (by decide) hE hI (by rw [hml]; exact hl.1) dX3_setLine_32 dX3_setLine_35 dX3_setLine_36 dX3_setLine_38 dX3_setLine_41 htab hlocks (by decide) (Nat.le_of_ble_eq_true rfl) (Or.inr ⟨rfl, hin0, by rw [in9_lo c_23] <;> rfl⟩)
      · refine lv_iload_n hx hb dX3_setLine_26 rfl (lv_at hl 2 rfl) ?_
        refine lv_bipush (v := nI 9) hx hb dX3_setLine_27 (by decide) ?_
        refine lv_icmp_le (tgt := 42) hx hb dX3_setLine_29 (by decide) (fun c_29 => ?_) (fun c_29 => ?_)
        · refine lv_iload_n hx hb dX3_setLine_42 rfl (lv_at hl 3 rfl) ?_
          refine m_callSi (As := [.int p2]) (rest := []) ⟨hx, hb, hml, hown, hts⟩ hE hI (c_X3_isCode k l ad N g _ p2 ) (va_cwS 1 hts gX3_setLine_X3_isCode rfl rfl rfl (by decide +kernel) ⟨Nat.le_of_ble_eq_true rfl, Nat.le_of_ble_eq_true rfl⟩) rfl hl.1 rfl (Nat.le_of_ble_eq_true rfl) dX3_setLine_43 ⟨Nat.le_of_ble_eq_true rfl, Nat.le_of_ble_eq_true rfl⟩ (m_deti (fun H locs hI => ?_))
          refine m_zneB (tgt := 59) hx hb dX3_setLine_46 (by decide) (fun c_46 => ?_) (fun c_46 => ?_)
          · have hin9 : in9 p1 = true := in9_yes c_23 c_29
            obtain ⟨q, hq, rfl⟩ := inN_ex c_46 (by omega)
            have htnq := tn_nI (j := q) (by omega)
            have hl : lv_has ls 5 [(0, .ref (ad 0)), (1, .int (nI j)), (2, .int p1), (3, .int (nI q))] := hl
            refine lv_aload_n hx hb dX3_setLine_59 rfl (lv_at hl 0 rfl) ?_
            refine m_get (ci := 3) (C := RX3) (T := TX3) (N' := 10) hx hb hts (by decide +kernel) hown hE hI 0 (by omega) h0 rfl 0 (by decide) (hts (.fieldLink RX3 10 "TapePrinter" "wire" "LTapePrinter$Wire;") (by decide +kernel)) rfl dX3_setLine_60 ?_
            refine lv_iload_n hx hb dX3_setLine_63 rfl (lv_at hl 1 rfl) ?_
            refine m_callVi (As := [.int (nI j)]) (rest := []) ⟨hx, hb, hml, hown, hts⟩ hE hI (c_X2_lateAt k l ad N g _ play lat gar j (by omega) hWi (by omega)) (cwV 1 hts gX3_setLine_X2_lateAt rfl rfl rfl (by decide +kernel) ⟨Nat.le_of_ble_eq_true rfl, Nat.le_of_ble_eq_true rfl⟩) (i := 1) (by omega) h1 rfl rfl hl.1 rfl (Nat.le_of_ble_eq_true rfl) dX3_setLine_64 ⟨Nat.le_of_ble_eq_true rfl, Nat.le_of_ble_eq_true rfl⟩ (m_deti (fun H locs hI => ?_))
            refine lv_istore (lv' := [(4, .int (lat j)), (0, .ref (ad 0)), (1, .int (nI j)), (2, .int p1), (3, .int (nI q))]) hx hb dX3_setLine_67 hl (by decide) rfl (fun ls hl => ?_)
            refine lv_aload_n hx hb dX3_setLine_69 rfl (lv_at hl 1 rfl) ?_
            refine m_get (ci := 3) (C := RX3) (T := TX3) (N' := 10) hx hb hts (by decide +kernel) hown hE hI 0 (by omega) h0 rfl 0 (by decide) (hts (.fieldLink RX3 10 "TapePrinter" "wire" "LTapePrinter$Wire;") (by decide +kernel)) rfl dX3_setLine_70 ?_
            refine lv_iload_n hx hb dX3_setLine_73 rfl (lv_at hl 2 rfl) ?_
            refine lv_iload_n hx hb dX3_setLine_74 rfl (lv_at hl 3 rfl) ?_
            refine lv_iload_n hx hb dX3_setLine_75 rfl (lv_at hl 4 rfl) ?_
            refine m_callVv (As := [.int (nI j), .int p1, .int (nI q)]) (rest := []) ⟨hx, hb, hml, hown, hts⟩ hE hI (c_X2_change k l ad N g _ play lat gar j p1 q (by omega) hWi (by omega)) (cwV 3 hts gX3_setLine_X2_change rfl rfl rfl (by decide +kernel) ⟨Nat.le_of_ble_eq_true rfl, Nat.le_of_ble_eq_true rfl⟩) (i := 1) (by omega) h1 rfl rfl hl.1 rfl (Nat.le_of_ble_eq_true rfl) dX3_setLine_76 ⟨Nat.le_of_ble_eq_true rfl, Nat.le_of_ble_eq_true rfl⟩ (m_detv (fun H locs hI => ?_))
            obtain ⟨g1, hg1⟩ : ∃ zz, zz = va_up (va_up g 3 (.inl (k.2.1.1, 16, .inl (upd lat j p1)))) 5 (.inl (k.2.1.1, 16, .inl (upd (fun j => nI (gar j)) j (nI q)))) := ⟨_, rfl⟩
            replace hI : mI k ad N g1 (mA ad N s.heap.size) s H locs := by rw [hg1]; exact hI
            have m_1 : g1 0 = .inr (3, [.ref (ad 1), .ref (ad 6), .ref (ad 48), .int (nI rd), .int (bI fig), .int (bI uns), .int (nI came), .int mis, .int lost, .int bel]) := by rw [hg1, va_up_ne _ _ (by omega), va_up_ne _ _ (by omega)]; exact h0
            have m_2 : g1 1 = .inr (2, [.ref (ad 2), .ref (ad 4), .int (nI play)]) := by rw [hg1, va_up_ne _ _ (by omega), va_up_ne _ _ (by omega)]; exact h1
            have m_3 : g1 48 = .inr (0, [.ref (ad 49), .int (nI n)]) := by rw [hg1, va_up_ne _ _ (by omega), va_up_ne _ _ (by omega)]; exact h48
            have m_4 : g1 49 = .inl (k.2.1.1, 120, .inl (fun j => nI (T j))) := by rw [hg1, va_up_ne _ _ (by omega), va_up_ne _ _ (by omega)]; exact h49
            have m_5 : g1 6 = .inr (1, [.ref (ad 7), .int (nI fi), .int (nI u)]) := by rw [hg1, va_up_ne _ _ (by omega), va_up_ne _ _ (by omega)]; exact h6
            refine lv_iload hx hb dX3_setLine_79 (lv_at hl 0 rfl) ?_
            have hk9 : ∀ i, i ≠ 3 → i ≠ 5 → g1 i = g i := fun i h3 h5 => by rw [hg1, va_up_ne _ _ h5, va_up_ne _ _ h3]
            have hWi9 : CWi k ad g1 play (upd lat j p1) (va_up gar j q) := by rw [hg1]; exact hWi.change j p1 q
            refine vx_ret ?_
            refine W.widen (k := 1) (n := 6) (by omega) (by omega) ?_
            exact m_iret hx hb hr hlocks hI (⟨hin0, by rw [hin9, c_46] <;> rfl, by rw [htnj], by rw [htnj, htnq]; exact ⟨(hk9 0 (by omega) (by omega)).trans h0, hWi9, hSh.kept (fun i h1 h2 => hk9 i (by omega) (by omega)), ⟨(hk9 48 (by omega) (by omega)).trans h48, (hk9 49 (by omega) (by omega)).trans h49⟩⟩, fun i hi => hk9 i (by omega) (by omega)⟩) dX3_setLine_81
          · exact m_throwS hx hb hst hown (cls := "java/lang/IllegalArgumentException") (ik := 67) (is := 72) (ic := 71) x_fit67 (hts (.classLink RX3 67 "java/lang/IllegalArgumentException") (by decide +kernel)) (hts (.initialized "java/lang/IllegalArgumentException") (by decide +kernel)) (x_hat67 hE.1.2.2.2.2.2 (fun w h => hts w (List.mem_cons_of_mem _ (List.mem_append_right _ h)))) x_good67 (text := "no such units") (by decide) hE hI (by rw [hml]; exact hl.1) dX3_setLine_49 dX3_setLine_52 dX3_setLine_53 dX3_setLine_55 dX3_setLine_58 htab hlocks (by decide) (Nat.le_of_ble_eq_true rfl) (Or.inr ⟨rfl, hin0, by rw [c_46, Bool.and_false]⟩)
        · exact m_throwS hx hb hst hown (cls := "java/lang/IllegalArgumentException") (ik := 67) (is := 69) (ic := 71) x_fit67 (hts (.classLink RX3 67 "java/lang/IllegalArgumentException") (by decide +kernel)) (hts (.initialized "java/lang/IllegalArgumentException") (by decide +kernel)) (x_hat67 hE.1.2.2.2.2.2 (fun w h => hts w (List.mem_cons_of_mem _ (List.mem_append_right _ h)))) x_good67 (text := "too early or too late") (by decide) hE hI (by rw [hml]; exact hl.1) dX3_setLine_32 dX3_setLine_35 dX3_setLine_36 dX3_setLine_38 dX3_setLine_41 htab hlocks (by decide) (Nat.le_of_ble_eq_true rfl) (Or.inr ⟨rfl, hin0, by rw [in9_hi c_29] <;> rfl⟩)
    · exact m_throwS hx hb hst hown (cls := "java/lang/IndexOutOfBoundsException") (ik := 36) (is := 65) (ic := 40) x_fit36 (hts (.classLink RX3 36 "java/lang/IndexOutOfBoundsException") (by decide +kernel)) (hts (.initialized "java/lang/IndexOutOfBoundsException") (by decide +kernel)) (x_hat36 hE.1.2.2.2.2.2 (fun w h => hts w (List.mem_cons_of_mem _ (List.mem_append_left _ (List.mem_append_right _ h))))) x_good36 (text := "no such place of the table") (by decide) hE hI (by rw [hml]; exact hl.1) dX3_setLine_10 dX3_setLine_13 dX3_setLine_14 dX3_setLine_16 dX3_setLine_19 htab hlocks (by decide) (Nat.le_of_ble_eq_true rfl) (Or.inl ⟨rfl, inN_nlt c_7⟩)
set_option maxHeartbeats 8000000 in
set_option maxRecDepth 100000 in
theorem c_X3_setPlay (k : mC) (l : Launch) (hst : l.stackTraces = false) (ad : Nat → Nat) (N : Nat) (g : Nat → va_E) (sz : Nat) (uns : Bool) (play rd n : Nat) (lat : Nat → Int32) (gar T : Nat → Nat) (came : Nat) (mis lost bel : Int32) (fig : Bool) (fi u : Nat) (z : Nat → Nat) (F : Nat → Nat → Nat) (r : Nat → Option Nat) (p0 : Int32) (hN : 50 ≤ N) (hW : CW play rd n lat gar T) (hwf : cWf (fi, u, z, F)) (hcame : came < 2000000000) (hC : CR k ad g uns play rd n lat gar T (came, mis, lost, bel, fig, fi, u, z, F) r)  : mXi k l yX3_setPlay wsX3_setPlay { frames := 6, cells := 1, slots := 6, locals := 82 } ad N g sz [.ref (ad 0), .int p0] (fun r1 g1 => inN p0 10 = true ∧ r1 = nI play ∧ CR k ad g1 uns (tn p0) rd n lat gar T (came, mis, lost, bel, fig, fi, u, z, F) r ∧ ∀ i, 50 ≤ i → g1 i = g i) (fun E => E = "java/lang/IllegalArgumentException" ∧ inN p0 10 = false) := by
  refine mOfX (cc := cX3_setPlay) (maxL := 3) (ret := (some .int)) (by decide) rfl (Nat.le_of_ble_eq_true rfl) ?_
  intro p e s m below meth c hx hb hr hts hown hlocks hml htab hE hI ls hl
  have hl : lv_has ls 3 [(0, .ref (ad 0)), (1, .int p0)] := hl
  have h0 : g 0 = .inr (3, [.ref (ad 1), .ref (ad 6), .ref (ad 48), .int (nI rd), .int (bI fig), .int (bI uns), .int (nI came), .int mis, .int lost, .int bel]) := hC.1
  have hWi : CWi k ad g play lat gar := hC.2.1
  have hSh : CSh k ad g fi u z F r := hC.2.2.1
  have h48 : g 48 = .inr (0, [.ref (ad 49), .int (nI n)]) := hC.2.2.2.1
  have h49 : g 49 = .inl (k.2.1.1, 120, .inl (fun j => nI (T j))) := hC.2.2.2.2
  have hr48 : CRow k ad g 48 120 n (fun j => nI (T j)) := ⟨h48, h49⟩
  have h1 := hWi.1
  have h6 : g 6 = .inr (1, [.ref (ad 7), .int (nI fi), .int (nI u)]) := hSh.1
  obtain ⟨hplay, hrd, hn, hgar, hT, hlat⟩ := id hW
  have hfi : fi < 20 := hwf.1
  have hu0 : 0 < u := hwf.2.1
  have hu : u ≤ 20 := hwf.2.2
  refine lv_iload_n hx hb dX3_setPlay_0 rfl (lv_at hl 1 rfl) ?_
  refine lv_if_lt (tgt := 10) hx hb dX3_setPlay_1 (by decide) (fun c_1 => ?_) (fun c_1 => ?_)
  · exact m_throwS hx hb hst hown (cls := "java/lang/IllegalArgumentException") (ik := 67) (is := 81) (ic := 71) x_fit67 (hts (.classLink RX3 67 "java/lang/IllegalArgumentException") (by decide +kernel)) (hts (.initialized "java/lang/IllegalArgumentException") (by decide +kernel)) (x_hat67 hE.1.2.2.2.2.2 (fun w h => hts w (List.mem_cons_of_mem _ (List.mem_append_right _ h)))) x_good67 (text := "no such play") (by decide) hE hI (by rw [hml]; exact hl.1) dX3_setPlay_10 dX3_setPlay_13 dX3_setPlay_14 dX3_setPlay_16 dX3_setPlay_19 htab hlocks (by decide) (Nat.le_of_ble_eq_true rfl) (⟨rfl, inN_neg c_1⟩)
  · refine lv_iload_n hx hb dX3_setPlay_4 rfl (lv_at hl 1 rfl) ?_
    refine lv_bipush (v := nI 9) hx hb dX3_setPlay_5 (by decide) ?_
    refine lv_icmp_le (tgt := 20) hx hb dX3_setPlay_7 (by decide) (fun c_7 => ?_) (fun c_7 => ?_)
    · have hin0 : inN p0 10 = true := inN_le c_1 c_7 (by omega)
      obtain ⟨j, hj, rfl⟩ := inN_ex hin0 (by omega)
      have htnj := tn_nI (j := j) (by omega)
      have hl : lv_has ls 3 [(0, .ref (ad 0)), (1, .int (nI j))] := hl
      refine lv_aload_n hx hb dX3_setPlay_20 rfl (lv_at hl 0 rfl) ?_
      refine m_get (ci := 3) (C := RX3) (T := TX3) (N' := 10) hx hb hts (by decide +kernel) hown hE hI 0 (by omega) h0 rfl 0 (by decide) (hts (.fieldLink RX3 10 "TapePrinter" "wire" "LTapePrinter$Wire;") (by decide +kernel)) rfl dX3_setPlay_21 ?_
      refine m_callVi (As := []) (rest := []) ⟨hx, hb, hml, hown, hts⟩ hE hI (c_X2_play k l ad N g _ play lat gar  (by omega) hWi ) (cwV 0 hts gX3_setPlay_X2_play rfl rfl rfl (by decide +kernel) ⟨Nat.le_of_ble_eq_true rfl, Nat.le_of_ble_eq_true rfl⟩) (i := 1) (by omega) h1 rfl rfl hl.1 rfl (Nat.le_of_ble_eq_true rfl) dX3_setPlay_24 ⟨Nat.le_of_ble_eq_true rfl, Nat.le_of_ble_eq_true rfl⟩ (m_deti (fun H locs hI => ?_))
      refine lv_istore_n (lv' := [(2, .int (nI play)), (0, .ref (ad 0)), (1, .int (nI j))]) hx hb dX3_setPlay_27 rfl hl (by decide) rfl (fun ls hl => ?_)
      refine lv_aload_n hx hb dX3_setPlay_28 rfl (lv_at hl 1 rfl) ?_
      refine m_get (ci := 3) (C := RX3) (T := TX3) (N' := 10) hx hb hts (by decide +kernel) hown hE hI 0 (by omega) h0 rfl 0 (by decide) (hts (.fieldLink RX3 10 "TapePrinter" "wire" "LTapePrinter$Wire;") (by decide +kernel)) rfl dX3_setPlay_29 ?_
      refine lv_iload_n hx hb dX3_setPlay_32 rfl (lv_at hl 2 rfl) ?_
      refine m_callVv (As := [.int (nI j)]) (rest := []) ⟨hx, hb, hml, hown, hts⟩ hE hI (c_X2_changePlay k l ad N g _ play lat gar j (by omega) hWi ) (cwV 1 hts gX3_setPlay_X2_changePlay rfl rfl rfl (by decide +kernel) ⟨Nat.le_of_ble_eq_true rfl, Nat.le_of_ble_eq_true rfl⟩) (i := 1) (by omega) h1 rfl rfl hl.1 rfl (Nat.le_of_ble_eq_true rfl) dX3_setPlay_33 ⟨Nat.le_of_ble_eq_true rfl, Nat.le_of_ble_eq_true rfl⟩ (m_detv (fun H locs hI => ?_))
      obtain ⟨g1, hg1⟩ : ∃ zz, zz = va_up g 1 (.inr (2, [.ref (ad 2), .ref (ad 4), .int (nI j)])) := ⟨_, rfl⟩
      replace hI : mI k ad N g1 (mA ad N s.heap.size) s H locs := by rw [hg1]; exact hI
      have m_1 : g1 0 = .inr (3, [.ref (ad 1), .ref (ad 6), .ref (ad 48), .int (nI rd), .int (bI fig), .int (bI uns), .int (nI came), .int mis, .int lost, .int bel]) := by rw [hg1, va_up_ne _ _ (by omega)]; exact h0
      have m_2 : g1 1 = .inr (2, [.ref (ad 2), .ref (ad 4), .int (nI j)]) := by rw [hg1, va_up_self]
      have m_3 : g1 48 = .inr (0, [.ref (ad 49), .int (nI n)]) := by rw [hg1, va_up_ne _ _ (by omega)]; exact h48
      have m_4 : g1 49 = .inl (k.2.1.1, 120, .inl (fun j => nI (T j))) := by rw [hg1, va_up_ne _ _ (by omega)]; exact h49
      have m_5 : g1 6 = .inr (1, [.ref (ad 7), .int (nI fi), .int (nI u)]) := by rw [hg1, va_up_ne _ _ (by omega)]; exact h6
      refine lv_iload_n hx hb dX3_setPlay_36 rfl (lv_at hl 0 rfl) ?_
      have hk9 : ∀ i, i ≠ 1 → g1 i = g i := fun i h3 => by rw [hg1, va_up_ne _ _ h3]
      have hWi9 : CWi k ad g1 j lat gar := by rw [hg1]; exact hWi.play j
      refine vx_ret ?_
      refine W.widen (k := 1) (n := 6) (by omega) (by omega) ?_
      exact m_iret hx hb hr hlocks hI (⟨hin0, rfl, by rw [htnj]; exact ⟨(hk9 0 (by omega)).trans h0, hWi9, hSh.kept (fun i h1 h2 => hk9 i (by omega)), ⟨(hk9 48 (by omega)).trans h48, (hk9 49 (by omega)).trans h49⟩⟩, fun i hi => hk9 i (by omega)⟩) dX3_setPlay_37
    · exact m_throwS hx hb hst hown (cls := "java/lang/IllegalArgumentException") (ik := 67) (is := 81) (ic := 71) x_fit67 (hts (.classLink RX3 67 "java/lang/IllegalArgumentException") (by decide +kernel)) (hts (.initialized "java/lang/IllegalArgumentException") (by decide +kernel)) (x_hat67 hE.1.2.2.2.2.2 (fun w h => hts w (List.mem_cons_of_mem _ (List.mem_append_right _ h)))) x_good67 (text := "no such play") (by decide) hE hI (by rw [hml]; exact hl.1) dX3_setPlay_10 dX3_setPlay_13 dX3_setPlay_14 dX3_setPlay_16 dX3_setPlay_19 htab hlocks (by decide) (Nat.le_of_ble_eq_true rfl) (⟨rfl, inN_nle c_7 (by omega)⟩)
set_option maxHeartbeats 8000000 in
set_option maxRecDepth 100000 in
theorem c_X3_setUnshift (k : mC) (l : Launch) (ad : Nat → Nat) (N : Nat) (g : Nat → va_E) (sz : Nat) (uns : Bool) (play rd n : Nat) (lat : Nat → Int32) (gar T : Nat → Nat) (came : Nat) (mis lost bel : Int32) (fig : Bool) (fi u : Nat) (z : Nat → Nat) (F : Nat → Nat → Nat) (r : Nat → Option Nat) (b0 : Bool) (hN : 50 ≤ N) (hW : CW play rd n lat gar T) (hwf : cWf (fi, u, z, F)) (hcame : came < 2000000000) (hC : CR k ad g uns play rd n lat gar T (came, mis, lost, bel, fig, fi, u, z, F) r)  : mCi k l yX3_setUnshift wsX3_setUnshift { frames := 0, cells := 0, slots := 0, locals := 0 } ad N g sz [.ref (ad 0), .int (bI b0)] (fun r1 g1 => r1 = bI uns ∧ CR k ad g1 b0 play rd n lat gar T (came, mis, lost, bel, fig, fi, u, z, F) r ∧ ∀ i, 50 ≤ i → g1 i = g i) := by
  refine mOf (Qc := fun z9 => va_Qi (fun r1 g1 => r1 = bI uns ∧ CR k ad g1 b0 play rd n lat gar T (came, mis, lost, bel, fig, fi, u, z, F) r ∧ ∀ i, 50 ≤ i → g1 i = g i) (mB k ad N) (mA ad N z9)) (cc := cX3_setUnshift) (maxL := 3) (ret := (some .boolean)) (by decide) rfl (Nat.le_of_ble_eq_true rfl) ?_
  intro p e s m below meth c hx hb hr hts hown hlocks hml hin hE hI ls hl
  have hl : lv_has ls 3 [(0, .ref (ad 0)), (1, .int (bI b0))] := hl
  have h0 : g 0 = .inr (3, [.ref (ad 1), .ref (ad 6), .ref (ad 48), .int (nI rd), .int (bI fig), .int (bI uns), .int (nI came), .int mis, .int lost, .int bel]) := hC.1
  have hWi : CWi k ad g play lat gar := hC.2.1
  have hSh : CSh k ad g fi u z F r := hC.2.2.1
  have h48 : g 48 = .inr (0, [.ref (ad 49), .int (nI n)]) := hC.2.2.2.1
  have h49 : g 49 = .inl (k.2.1.1, 120, .inl (fun j => nI (T j))) := hC.2.2.2.2
  have hr48 : CRow k ad g 48 120 n (fun j => nI (T j)) := ⟨h48, h49⟩
  have h1 := hWi.1
  have h6 : g 6 = .inr (1, [.ref (ad 7), .int (nI fi), .int (nI u)]) := hSh.1
  obtain ⟨hplay, hrd, hn, hgar, hT, hlat⟩ := id hW
  have hfi : fi < 20 := hwf.1
  have hu0 : 0 < u := hwf.2.1
  have hu : u ≤ 20 := hwf.2.2
  refine lv_aload_n hx hb dX3_setUnshift_0 rfl (lv_at hl 0 rfl) ?_
  refine m_get (ci := 3) (C := RX3) (T := TX3) (N' := 10) hx hb hts (by decide +kernel) hown hE hI 0 (by omega) h0 rfl 5 (by decide) (hts (.fieldLink RX3 90 "TapePrinter" "unshifts" "Z") (by decide +kernel)) rfl dX3_setUnshift_1 ?_
  refine lv_istore_n (lv' := [(2, .int (bI uns)), (0, .ref (ad 0)), (1, .int (bI b0))]) hx hb dX3_setUnshift_4 rfl hl (by decide) rfl (fun ls hl => ?_)
  refine lv_aload_n hx hb dX3_setUnshift_5 rfl (lv_at hl 1 rfl) ?_
  refine lv_iload_n hx hb dX3_setUnshift_6 rfl (lv_at hl 2 rfl) ?_
  refine m_put (ci := 3) (C := RX3) (T := TX3) (N' := 10) (ty := .boolean) hx hb hts (by decide +kernel) tyX3 tyX3_ok nmX3 hown hE hI 0 (by omega) h0 rfl 5 (by decide) (hts (.fieldLink RX3 90 "TapePrinter" "unshifts" "Z") (by decide +kernel)) rfl (by decide +kernel) (bI_nar _) (bI_fit _) (Nat.le_of_ble_eq_true rfl) dX3_setUnshift_7 (fun H locs hI => ?_)
  obtain ⟨g1, hg1⟩ : ∃ zz, zz = va_up g 0 (.inr (3, [.ref (ad 1), .ref (ad 6), .ref (ad 48), .int (nI rd), .int (bI fig), .int (bI b0), .int (nI came), .int mis, .int lost, .int bel])) := ⟨_, rfl⟩
  replace hI : mI k ad N g1 (mA ad N s.heap.size) s H locs := by rw [hg1]; exact hI
  have m_1 : g1 0 = .inr (3, [.ref (ad 1), .ref (ad 6), .ref (ad 48), .int (nI rd), .int (bI fig), .int (bI b0), .int (nI came), .int mis, .int lost, .int bel]) := by rw [hg1, va_up_self]
  have m_2 : g1 1 = .inr (2, [.ref (ad 2), .ref (ad 4), .int (nI play)]) := by rw [hg1, va_up_ne _ _ (by omega)]; exact h1
  have m_3 : g1 48 = .inr (0, [.ref (ad 49), .int (nI n)]) := by rw [hg1, va_up_ne _ _ (by omega)]; exact h48
  have m_4 : g1 49 = .inl (k.2.1.1, 120, .inl (fun j => nI (T j))) := by rw [hg1, va_up_ne _ _ (by omega)]; exact h49
  have m_5 : g1 6 = .inr (1, [.ref (ad 7), .int (nI fi), .int (nI u)]) := by rw [hg1, va_up_ne _ _ (by omega)]; exact h6
  refine lv_iload_n hx hb dX3_setUnshift_10 rfl (lv_at hl 0 rfl) ?_
  have hk9 : ∀ i, i ≠ 0 → g1 i = g i := fun i h3 => by rw [hg1, va_up_ne _ _ h3]
  exact m_zret (v := uns) hx hb hr hlocks hI (⟨rfl, ⟨m_1, hWi.kept (fun i h1 h2 => hk9 i (by omega)), hSh.kept (fun i h1 h2 => hk9 i (by omega)), ⟨(hk9 48 (by omega)).trans h48, (hk9 49 (by omega)).trans h49⟩⟩, fun i hi => hk9 i (by omega)⟩) dX3_setUnshift_11
set_option maxHeartbeats 8000000 in
set_option maxRecDepth 100000 in
theorem c_X3_receive (k : mC) (l : Launch) (hst : l.stackTraces = false) (ad : Nat → Nat) (N : Nat) (g : Nat → va_E) (sz : Nat) (uns : Bool) (play rd n : Nat) (lat : Nat → Int32) (gar T : Nat → Nat) (came : Nat) (mis lost bel : Int32) (fig : Bool) (fi u : Nat) (z : Nat → Nat) (F : Nat → Nat → Nat) (r : Nat → Option Nat) (p0 : Int32) (hN : 50 ≤ N) (hW : CW play rd n lat gar T) (hwf : cWf (fi, u, z, F)) (hcame : came < 2000000000) (hC : CR k ad g uns play rd n lat gar T (came, mis, lost, bel, fig, fi, u, z, F) r)  : mXi k l yX3_receive wsX3_receive { frames := 6, cells := 1, slots := 6, locals := 107 } ad N g sz [.ref (ad 0), .int p0] (fun r1 g1 => inN p0 32 = true ∧ r1 = nI (rdY play lat gar came (tn p0)) ∧ CR k ad g1 uns play rd n lat gar T (yIn cNl cFull cAdd uns play lat gar (tn p0) (came, mis, lost, bel, fig, fi, u, z, F)) r ∧ ∀ i, 50 ≤ i → g1 i = g i) (fun E => E = "java/lang/IndexOutOfBoundsException" ∧ inN p0 32 = false) := by
  refine mOfX (cc := cX3_receive) (maxL := 2) (ret := (some .int)) (by decide) rfl (Nat.le_of_ble_eq_true rfl) ?_
  intro p e s m below meth c hx hb hr hts hown hlocks hml htab hE hI ls hl
  have hl : lv_has ls 2 [(0, .ref (ad 0)), (1, .int p0)] := hl
  have h0 : g 0 = .inr (3, [.ref (ad 1), .ref (ad 6), .ref (ad 48), .int (nI rd), .int (bI fig), .int (bI uns), .int (nI came), .int mis, .int lost, .int bel]) := hC.1
  have hWi : CWi k ad g play lat gar := hC.2.1
  have hSh : CSh k ad g fi u z F r := hC.2.2.1
  have h48 : g 48 = .inr (0, [.ref (ad 49), .int (nI n)]) := hC.2.2.2.1
  have h49 : g 49 = .inl (k.2.1.1, 120, .inl (fun j => nI (T j))) := hC.2.2.2.2
  have hr48 : CRow k ad g 48 120 n (fun j => nI (T j)) := ⟨h48, h49⟩
  have h1 := hWi.1
  have h6 : g 6 = .inr (1, [.ref (ad 7), .int (nI fi), .int (nI u)]) := hSh.1
  obtain ⟨hplay, hrd, hn, hgar, hT, hlat⟩ := id hW
  have hfi : fi < 20 := hwf.1
  have hu0 : 0 < u := hwf.2.1
  have hu : u ≤ 20 := hwf.2.2
  refine lv_iload_n hx hb dX3_receive_0 rfl (lv_at hl 1 rfl) ?_
  refine m_callSi (As := [.int p0]) (rest := []) ⟨hx, hb, hml, hown, hts⟩ hE hI (c_X3_isCode k l ad N g _ p0 ) (va_cwS 1 hts gX3_receive_X3_isCode rfl rfl rfl (by decide +kernel) ⟨Nat.le_of_ble_eq_true rfl, Nat.le_of_ble_eq_true rfl⟩) rfl hl.1 rfl (Nat.le_of_ble_eq_true rfl) dX3_receive_1 ⟨Nat.le_of_ble_eq_true rfl, Nat.le_of_ble_eq_true rfl⟩ (m_deti (fun H locs hI => ?_))
  refine m_zneB (tgt := 17) hx hb dX3_receive_4 (by decide) (fun c_4 => ?_) (fun c_4 => ?_)
  · obtain ⟨j, hj, rfl⟩ := inN_ex c_4 (by omega)
    have htnj := tn_nI (j := j) (by omega)
    have hl : lv_has ls 2 [(0, .ref (ad 0)), (1, .int (nI j))] := hl
    refine lv_aload_n hx hb dX3_receive_17 rfl (lv_at hl 0 rfl) ?_
    refine lv_iload_n hx hb dX3_receive_18 rfl (lv_at hl 1 rfl) ?_
    refine m_callVi (As := [.int (nI j)]) (rest := []) ⟨hx, hb, hml, hown, hts⟩ hE hI (c_X3_takeIn k l ad N g _ uns play rd n lat gar T came mis lost bel fig fi u z F r j (by omega) hW hwf (by omega) hC (by omega)) (cwV 1 hts gX3_receive_X3_takeIn rfl rfl rfl (by decide +kernel) ⟨Nat.le_of_ble_eq_true rfl, Nat.le_of_ble_eq_true rfl⟩) (i := 0) (by omega) h0 rfl rfl hl.1 rfl (Nat.le_of_ble_eq_true rfl) dX3_receive_19 ⟨Nat.le_of_ble_eq_true rfl, Nat.le_of_ble_eq_true rfl⟩ (fun r9 g9 H locs hp hI => ?_)
    obtain ⟨hrr, hC9, hk9⟩ := hp
    subst hrr
    refine vx_ret ?_
    refine W.widen (k := 1) (n := 6) (by omega) (by omega) ?_
    exact m_iret hx hb hr hlocks hI (⟨c_4, by rw [htnj], by rw [htnj]; exact hC9, hk9⟩) dX3_receive_22
  · exact m_throwS hx hb hst hown (cls := "java/lang/IndexOutOfBoundsException") (ik := 36) (is := 50) (ic := 40) x_fit36 (hts (.classLink RX3 36 "java/lang/IndexOutOfBoundsException") (by decide +kernel)) (hts (.initialized "java/lang/IndexOutOfBoundsException") (by decide +kernel)) (x_hat36 hE.1.2.2.2.2.2 (fun w h => hts w (List.mem_cons_of_mem _ (List.mem_append_right _ h)))) x_good36 (text := "no such code") (by decide) hE hI (by rw [hml]; exact hl.1) dX3_receive_7 dX3_receive_10 dX3_receive_11 dX3_receive_13 dX3_receive_16 htab hlocks (by decide) (Nat.le_of_ble_eq_true rfl) (⟨rfl, c_4⟩)
set_option maxHeartbeats 8000000 in
set_option maxRecDepth 100000 in
theorem c_X3_punch (k : mC) (l : Launch) (hst : l.stackTraces = false) (ad : Nat → Nat) (N : Nat) (g : Nat → va_E) (sz : Nat) (uns : Bool) (play rd n : Nat) (lat : Nat → Int32) (gar T : Nat → Nat) (came : Nat) (mis lost bel : Int32) (fig : Bool) (fi u : Nat) (z : Nat → Nat) (F : Nat → Nat → Nat) (r : Nat → Option Nat) (p0 : Int32) (hN : 50 ≤ N) (hW : CW play rd n lat gar T) (hwf : cWf (fi, u, z, F)) (hcame : came < 2000000000) (hC : CR k ad g uns play rd n lat gar T (came, mis, lost, bel, fig, fi, u, z, F) r)  : mXi k l yX3_punch wsX3_punch { frames := 6, cells := 1, slots := 6, locals := 82 } ad N g sz [.ref (ad 0), .int p0] (fun r1 g1 => inN p0 32 = true ∧ n < 120 ∧ r1 = nI (n + 1) ∧ CR k ad g1 uns play rd (n + 1) lat gar (va_up T n (tn p0)) (came, mis, lost, bel, fig, fi, u, z, F) r ∧ ∀ i, 50 ≤ i → g1 i = g i) (fun E => (E = "java/lang/IndexOutOfBoundsException" ∧ inN p0 32 = false) ∨ (E = "java/lang/IllegalStateException" ∧ inN p0 32 = true ∧ n = 120)) := by
  refine mOfX (cc := cX3_punch) (maxL := 2) (ret := (some .int)) (by decide) rfl (Nat.le_of_ble_eq_true rfl) ?_
  intro p e s m below meth c hx hb hr hts hown hlocks hml htab hE hI ls hl
  have hl : lv_has ls 2 [(0, .ref (ad 0)), (1, .int p0)] := hl
  have h0 : g 0 = .inr (3, [.ref (ad 1), .ref (ad 6), .ref (ad 48), .int (nI rd), .int (bI fig), .int (bI uns), .int (nI came), .int mis, .int lost, .int bel]) := hC.1
  have hWi : CWi k ad g play lat gar := hC.2.1
  have hSh : CSh k ad g fi u z F r := hC.2.2.1
  have h48 : g 48 = .inr (0, [.ref (ad 49), .int (nI n)]) := hC.2.2.2.1
  have h49 : g 49 = .inl (k.2.1.1, 120, .inl (fun j => nI (T j))) := hC.2.2.2.2
  have hr48 : CRow k ad g 48 120 n (fun j => nI (T j)) := ⟨h48, h49⟩
  have h1 := hWi.1
  have h6 : g 6 = .inr (1, [.ref (ad 7), .int (nI fi), .int (nI u)]) := hSh.1
  obtain ⟨hplay, hrd, hn, hgar, hT, hlat⟩ := id hW
  have hfi : fi < 20 := hwf.1
  have hu0 : 0 < u := hwf.2.1
  have hu : u ≤ 20 := hwf.2.2
  refine lv_iload_n hx hb dX3_punch_0 rfl (lv_at hl 1 rfl) ?_
  refine m_callSi (As := [.int p0]) (rest := []) ⟨hx, hb, hml, hown, hts⟩ hE hI (c_X3_isCode k l ad N g _ p0 ) (va_cwS 1 hts gX3_punch_X3_isCode rfl rfl rfl (by decide +kernel) ⟨Nat.le_of_ble_eq_true rfl, Nat.le_of_ble_eq_true rfl⟩) rfl hl.1 rfl (Nat.le_of_ble_eq_true rfl) dX3_punch_1 ⟨Nat.le_of_ble_eq_true rfl, Nat.le_of_ble_eq_true rfl⟩ (m_deti (fun H locs hI => ?_))
  refine m_zneB (tgt := 17) hx hb dX3_punch_4 (by decide) (fun c_4 => ?_) (fun c_4 => ?_)
  · obtain ⟨j, hj, rfl⟩ := inN_ex c_4 (by omega)
    have htnj := tn_nI (j := j) (by omega)
    have hl : lv_has ls 2 [(0, .ref (ad 0)), (1, .int (nI j))] := hl
    refine lv_aload_n hx hb dX3_punch_17 rfl (lv_at hl 0 rfl) ?_
    refine m_get (ci := 3) (C := RX3) (T := TX3) (N' := 10) hx hb hts (by decide +kernel) hown hE hI 0 (by omega) h0 rfl 2 (by decide) (hts (.fieldLink RX3 28 "TapePrinter" "strip" "LTapePrinter$Row;") (by decide +kernel)) rfl dX3_punch_18 ?_
    refine m_callVi (As := []) (rest := []) ⟨hx, hb, hml, hown, hts⟩ hE hI (c_X0_room k l ad N g _ 48 120 n (fun j => nI (T j))  (by omega) (by omega) (by omega) ⟨h48, h49⟩) (cwV 0 hts gX3_punch_X0_room rfl rfl rfl (by decide +kernel) ⟨Nat.le_of_ble_eq_true rfl, Nat.le_of_ble_eq_true rfl⟩) (i := 48) (by omega) h48 rfl rfl hl.1 rfl (Nat.le_of_ble_eq_true rfl) dX3_punch_21 ⟨Nat.le_of_ble_eq_true rfl, Nat.le_of_ble_eq_true rfl⟩ (m_deti (fun H locs hI => ?_))
    refine lv_iconst (v := nI 1) hx hb dX3_punch_24 (by decide) ?_
    refine m_cgeN (tgt := 38) hx hb (by omega) (by omega) dX3_punch_25 (by decide) (fun c_25 => ?_) (fun c_25 => ?_)
    · refine lv_aload_n hx hb dX3_punch_38 rfl (lv_at hl 0 rfl) ?_
      refine m_get (ci := 3) (C := RX3) (T := TX3) (N' := 10) hx hb hts (by decide +kernel) hown hE hI 0 (by omega) h0 rfl 2 (by decide) (hts (.fieldLink RX3 28 "TapePrinter" "strip" "LTapePrinter$Row;") (by decide +kernel)) rfl dX3_punch_39 ?_
      refine lv_iload_n hx hb dX3_punch_42 rfl (lv_at hl 1 rfl) ?_
      refine m_callVi (As := [.int (nI j)]) (rest := []) ⟨hx, hb, hml, hown, hts⟩ hE hI (c_X0_add_in k l ad N g _ 48 120 n (fun j => nI (T j)) (nI j) (by omega) (by omega) (by omega) ⟨h48, h49⟩ (by omega)) (cwV 1 hts gX3_punch_X0_add rfl rfl rfl (by decide +kernel) ⟨Nat.le_of_ble_eq_true rfl, Nat.le_of_ble_eq_true rfl⟩) (i := 48) (by omega) h48 rfl rfl hl.1 rfl (Nat.le_of_ble_eq_true rfl) dX3_punch_43 ⟨Nat.le_of_ble_eq_true rfl, Nat.le_of_ble_eq_true rfl⟩ (m_deti (fun H locs hI => ?_))
      obtain ⟨g1, hg1⟩ : ∃ zz, zz = va_up (va_up g 49 (.inl (k.2.1.1, 120, .inl (upd (fun j => nI (T j)) n (nI j))))) 48 (.inr (0, [.ref (ad 49), .int (nI (n + 1))])) := ⟨_, rfl⟩
      replace hI : mI k ad N g1 (mA ad N s.heap.size) s H locs := by rw [hg1]; exact hI
      have m_1 : g1 0 = .inr (3, [.ref (ad 1), .ref (ad 6), .ref (ad 48), .int (nI rd), .int (bI fig), .int (bI uns), .int (nI came), .int mis, .int lost, .int bel]) := by rw [hg1, va_up_ne _ _ (by omega), va_up_ne _ _ (by omega)]; exact h0
      have m_2 : g1 1 = .inr (2, [.ref (ad 2), .ref (ad 4), .int (nI play)]) := by rw [hg1, va_up_ne _ _ (by omega), va_up_ne _ _ (by omega)]; exact h1
      have m_3 : g1 48 = .inr (0, [.ref (ad 49), .int (nI (n + 1))]) := by rw [hg1, va_up_self]
      have m_4 : g1 49 = .inl (k.2.1.1, 120, .inl (upd (fun j => nI (T j)) n (nI j))) := by rw [hg1, va_up_ne _ _ (by omega), va_up_self]
      have m_5 : g1 6 = .inr (1, [.ref (ad 7), .int (nI fi), .int (nI u)]) := by rw [hg1, va_up_ne _ _ (by omega), va_up_ne _ _ (by omega)]; exact h6
      refine lv_pop hx hb dX3_punch_46 rfl ?_
      refine lv_aload_n hx hb dX3_punch_47 rfl (lv_at hl 0 rfl) ?_
      refine m_get (ci := 3) (C := RX3) (T := TX3) (N' := 10) hx hb hts (by decide +kernel) hown hE hI 0 (by omega) m_1 rfl 2 (by decide) (hts (.fieldLink RX3 28 "TapePrinter" "strip" "LTapePrinter$Row;") (by decide +kernel)) rfl dX3_punch_48 ?_
      refine m_callVi (As := []) (rest := []) ⟨hx, hb, hml, hown, hts⟩ hE hI (c_X0_size k l ad N g1 _ 48 120 (n + 1) (upd (fun j => nI (T j)) n (nI j))  (by omega) (by omega) (by omega) ⟨m_3, m_4⟩) (cwV 0 hts gX3_punch_X0_size rfl rfl rfl (by decide +kernel) ⟨Nat.le_of_ble_eq_true rfl, Nat.le_of_ble_eq_true rfl⟩) (i := 48) (by omega) m_3 rfl rfl hl.1 rfl (Nat.le_of_ble_eq_true rfl) dX3_punch_51 ⟨Nat.le_of_ble_eq_true rfl, Nat.le_of_ble_eq_true rfl⟩ (m_deti (fun H locs hI => ?_))
      have hk9 : ∀ i, i < 48 ∨ 50 ≤ i → g1 i = g i := fun i hi => by rw [hg1, va_up_ne _ _ (by omega), va_up_ne _ _ (by omega)]
      have hT9 : g1 49 = .inl (k.2.1.1, 120, .inl (fun i => nI (va_up T n j i))) := by rw [m_4, upd_nI]
      refine vx_ret ?_
      refine W.widen (k := 1) (n := 6) (by omega) (by omega) ?_
      exact m_iret hx hb hr hlocks hI (⟨c_4, by omega, rfl, by rw [htnj]; exact ⟨m_1, hWi.kept (fun i h1 h2 => hk9 i (by omega)), hSh.kept (fun i h1 h2 => hk9 i (by omega)), ⟨m_3, hT9⟩⟩, fun i hi => hk9 i (by omega)⟩) dX3_punch_54
    · exact m_throwS hx hb hst hown (cls := "java/lang/IllegalStateException") (ik := 99) (is := 101) (ic := 103) x_fit99 (hts (.classLink RX3 99 "java/lang/IllegalStateException") (by decide +kernel)) (hts (.initialized "java/lang/IllegalStateException") (by decide +kernel)) (x_hat99 hE.1.2.2.2.2.2 (fun w h => hts w (List.mem_cons_of_mem _ (List.mem_append_right _ h)))) x_good99 (text := "the tape is full") (by decide) hE hI (by rw [hml]; exact hl.1) dX3_punch_28 dX3_punch_31 dX3_punch_32 dX3_punch_34 dX3_punch_37 htab hlocks (by decide) (Nat.le_of_ble_eq_true rfl) (Or.inr ⟨rfl, c_4, by omega⟩)
  · exact m_throwS hx hb hst hown (cls := "java/lang/IndexOutOfBoundsException") (ik := 36) (is := 50) (ic := 40) x_fit36 (hts (.classLink RX3 36 "java/lang/IndexOutOfBoundsException") (by decide +kernel)) (hts (.initialized "java/lang/IndexOutOfBoundsException") (by decide +kernel)) (x_hat36 hE.1.2.2.2.2.2 (fun w h => hts w (List.mem_cons_of_mem _ (List.mem_append_left _ (List.mem_append_right _ h))))) x_good36 (text := "no such code") (by decide) hE hI (by rw [hml]; exact hl.1) dX3_punch_7 dX3_punch_10 dX3_punch_11 dX3_punch_13 dX3_punch_16 htab hlocks (by decide) (Nat.le_of_ble_eq_true rfl) (Or.inl ⟨rfl, c_4⟩)
/-- whether a shift is punched ahead of a character -/
def tyS (uns : Bool) (T : Nat → Nat) (n j : Nat) : Bool := dep (cd j) && ((decide (26 < j) && decide (j < 53)) != fa uns T n)
def tyN (uns : Bool) (T : Nat → Nat) (n j : Nat) : Nat := if tyS uns T n j then 2 else 1
def tyT (uns : Bool) (T : Nat → Nat) (n j : Nat) : Nat → Nat := if tyS uns T n j then va_up (va_up T n (if decide (26 < j) && decide (j < 53) then 27 else 31)) (n + 1) (cd j) else va_up T n (cd j)
set_option maxHeartbeats 8000000 in
set_option maxRecDepth 100000 in
theorem c_X3_type (k : mC) (l : Launch) (hst : l.stackTraces = false) (ad : Nat → Nat) (N : Nat) (g : Nat → va_E) (sz : Nat) (uns : Bool) (play rd n : Nat) (lat : Nat → Int32) (gar T : Nat → Nat) (came : Nat) (mis lost bel : Int32) (fig : Bool) (fi u : Nat) (z : Nat → Nat) (F : Nat → Nat → Nat) (r : Nat → Option Nat) (p0 : Int32) (hN : 50 ≤ N) (hW : CW play rd n lat gar T) (hwf : cWf (fi, u, z, F)) (hcame : came < 2000000000) (hC : CR k ad g uns play rd n lat gar T (came, mis, lost, bel, fig, fi, u, z, F) r)  : mXi k l yX3_type wsX3_type { frames := 6, cells := 1, slots := 6, locals := 86 } ad N g sz [.ref (ad 0), .int p0] (fun r1 g1 => inC p0 = true ∧ n + tyN uns T n (tn p0) ≤ 120 ∧ r1 = nI (tyN uns T n (tn p0)) ∧ CR k ad g1 uns play rd (n + tyN uns T n (tn p0)) lat gar (tyT uns T n (tn p0)) (came, mis, lost, bel, fig, fi, u, z, F) r ∧ ∀ i, 50 ≤ i → g1 i = g i) (fun E => (E = "java/lang/IndexOutOfBoundsException" ∧ inC p0 = false) ∨ (E = "java/lang/IllegalStateException" ∧ inC p0 = true ∧ 120 < n + tyN uns T n (tn p0))) := by
  refine mOfX (cc := cX3_type) (maxL := 5) (ret := (some .int)) (by decide) rfl (Nat.le_of_ble_eq_true rfl) ?_
  intro p e s m below meth c hx hb hr hts hown hlocks hml htab hE hI ls hl
  have hl : lv_has ls 5 [(0, .ref (ad 0)), (1, .int p0)] := hl
  have h0 : g 0 = .inr (3, [.ref (ad 1), .ref (ad 6), .ref (ad 48), .int (nI rd), .int (bI fig), .int (bI uns), .int (nI came), .int mis, .int lost, .int bel]) := hC.1
  have hWi : CWi k ad g play lat gar := hC.2.1
  have hSh : CSh k ad g fi u z F r := hC.2.2.1
  have h48 : g 48 = .inr (0, [.ref (ad 49), .int (nI n)]) := hC.2.2.2.1
  have h49 : g 49 = .inl (k.2.1.1, 120, .inl (fun j => nI (T j))) := hC.2.2.2.2
  have hr48 : CRow k ad g 48 120 n (fun j => nI (T j)) := ⟨h48, h49⟩
  have h1 := hWi.1
  have h6 : g 6 = .inr (1, [.ref (ad 7), .int (nI fi), .int (nI u)]) := hSh.1
  obtain ⟨hplay, hrd, hn, hgar, hT, hlat⟩ := id hW
  have hfi : fi < 20 := hwf.1
  have hu0 : 0 < u := hwf.2.1
  have hu : u ≤ 20 := hwf.2.2
  refine lv_iload_n hx hb dX3_type_0 rfl (lv_at hl 1 rfl) ?_
  refine m_callSi (As := [.int p0]) (rest := []) ⟨hx, hb, hml, hown, hts⟩ hE hI (c_X3_isCharacter k l ad N g _ p0 ) (va_cwS 1 hts gX3_type_X3_isCharacter rfl rfl rfl (by decide +kernel) ⟨Nat.le_of_ble_eq_true rfl, Nat.le_of_ble_eq_true rfl⟩) rfl hl.1 rfl (Nat.le_of_ble_eq_true rfl) dX3_type_1 ⟨Nat.le_of_ble_eq_true rfl, Nat.le_of_ble_eq_true rfl⟩ (m_deti (fun H locs hI => ?_))
  refine m_zneB (tgt := 17) hx hb dX3_type_4 (by decide) (fun c_4 => ?_) (fun c_4 => ?_)
  · obtain ⟨j, h1j, hj, rfl⟩ := inC_ex c_4
    have htnj := tn_nI (j := j) (by omega)
    have hicj : inC (nI j) = true := c_4
    have hl : lv_has ls 5 [(0, .ref (ad 0)), (1, .int (nI j))] := hl
    refine lv_iload_n hx hb dX3_type_17 rfl (lv_at hl 1 rfl) ?_
    refine m_callSi (As := [.int (nI j)]) (rest := []) ⟨hx, hb, hml, hown, hts⟩ hE hI (c_X3_isFigure k l ad N g _ j (by omega)) (va_cwS 1 hts gX3_type_X3_isFigure rfl rfl rfl (by decide +kernel) ⟨Nat.le_of_ble_eq_true rfl, Nat.le_of_ble_eq_true rfl⟩) rfl hl.1 rfl (Nat.le_of_ble_eq_true rfl) dX3_type_18 ⟨Nat.le_of_ble_eq_true rfl, Nat.le_of_ble_eq_true rfl⟩ (m_deti (fun H locs hI => ?_))
    refine lv_istore_n (lv' := [(2, .int (bI (decide (26 < j) && decide (j < 53)))), (0, .ref (ad 0)), (1, .int (nI j))]) hx hb dX3_type_21 rfl hl (by decide) rfl (fun ls hl => ?_)
    refine lv_iload_n hx hb dX3_type_22 rfl (lv_at hl 2 rfl) ?_
    refine m_callSi (As := [.int (nI j)]) (rest := []) ⟨hx, hb, hml, hown, hts⟩ hE hI (c_X3_codeOf k l ad N g _ j (by omega)) (va_cwS 1 hts gX3_type_X3_codeOf rfl rfl rfl (by decide +kernel) ⟨Nat.le_of_ble_eq_true rfl, Nat.le_of_ble_eq_true rfl⟩) rfl hl.1 rfl (Nat.le_of_ble_eq_true rfl) dX3_type_23 ⟨Nat.le_of_ble_eq_true rfl, Nat.le_of_ble_eq_true rfl⟩ (m_deti (fun H locs hI => ?_))
    have hcdj := cd_lt j (by omega)
    refine m_callSi (As := [.int (nI (cd j))]) (rest := []) ⟨hx, hb, hml, hown, hts⟩ hE hI (c_X3_dependsOnShift k l ad N g _ (cd j) (by omega)) (va_cwS 1 hts gX3_type_X3_dependsOnShift rfl rfl rfl (by decide +kernel) ⟨Nat.le_of_ble_eq_true rfl, Nat.le_of_ble_eq_true rfl⟩) rfl hl.1 rfl (Nat.le_of_ble_eq_true rfl) dX3_type_26 ⟨Nat.le_of_ble_eq_true rfl, Nat.le_of_ble_eq_true rfl⟩ (m_deti (fun H locs hI => ?_))
    refine m_zeqB (tgt := 44) hx hb dX3_type_29 (by decide) (fun c_29 => ?_) (fun c_29 => ?_)
    · have htys : tyS uns T n j = false := by unfold tyS; rw [c_29] <;> rfl
      have htyn : tyN uns T n j = 1 := by unfold tyN; rw [htys] <;> rfl
      refine lv_iconst (v := nI 0) hx hb dX3_type_44 (by decide) ?_
      refine lv_istore_n (lv' := [(3, .int (nI 0)), (2, .int (bI (decide (26 < j) && decide (j < 53)))), (0, .ref (ad 0)), (1, .int (nI j))]) hx hb dX3_type_45 rfl hl (by decide) rfl (fun ls hl => ?_)
      refine lv_iload_n hx hb dX3_type_46 rfl (lv_at hl 0 rfl) ?_
      refine m_zeqN (tgt := 54) hx hb (by omega) dX3_type_47 (by decide) (fun c_47 => ?_) (fun c => absurd c (by decide))
      refine lv_iconst (v := nI 1) hx hb dX3_type_54 (by decide) ?_
      refine lv_istore (lv' := [(4, .int (nI 1)), (3, .int (nI 0)), (2, .int (bI (decide (26 < j) && decide (j < 53)))), (0, .ref (ad 0)), (1, .int (nI j))]) hx hb dX3_type_55 hl (by decide) rfl (fun ls hl => ?_)
      refine lv_aload_n hx hb dX3_type_57 rfl (lv_at hl 3 rfl) ?_
      refine m_get (ci := 3) (C := RX3) (T := TX3) (N' := 10) hx hb hts (by decide +kernel) hown hE hI 0 (by omega) h0 rfl 2 (by decide) (hts (.fieldLink RX3 28 "TapePrinter" "strip" "LTapePrinter$Row;") (by decide +kernel)) rfl dX3_type_58 ?_
      refine m_callVi (As := []) (rest := []) ⟨hx, hb, hml, hown, hts⟩ hE hI (c_X0_room k l ad N g _ 48 120 n (fun j => nI (T j))  (by omega) (by omega) (by omega) ⟨h48, h49⟩) (cwV 0 hts gX3_type_X0_room rfl rfl rfl (by decide +kernel) ⟨Nat.le_of_ble_eq_true rfl, Nat.le_of_ble_eq_true rfl⟩) (i := 48) (by omega) h48 rfl rfl hl.1 rfl (Nat.le_of_ble_eq_true rfl) dX3_type_61 ⟨Nat.le_of_ble_eq_true rfl, Nat.le_of_ble_eq_true rfl⟩ (m_deti (fun H locs hI => ?_))
      refine lv_iload hx hb dX3_type_64 (lv_at hl 0 rfl) ?_
      refine m_cgeN (tgt := 79) hx hb (by omega) (by omega) dX3_type_66 (by decide) (fun c_66 => ?_) (fun c_66 => ?_)
      · refine lv_iload_n hx hb dX3_type_79 rfl (lv_at hl 1 rfl) ?_
        refine m_zeqN (tgt := 102) hx hb (by omega) dX3_type_80 (by decide) (fun c_80 => ?_) (fun c => absurd c (by decide))
        refine lv_aload_n hx hb dX3_type_102 rfl (lv_at hl 3 rfl) ?_
        refine m_get (ci := 3) (C := RX3) (T := TX3) (N' := 10) hx hb hts (by decide +kernel) hown hE hI 0 (by omega) h0 rfl 2 (by decide) (hts (.fieldLink RX3 28 "TapePrinter" "strip" "LTapePrinter$Row;") (by decide +kernel)) rfl dX3_type_103 ?_
        refine lv_iload_n hx hb dX3_type_106 rfl (lv_at hl 4 rfl) ?_
        refine m_callSi (As := [.int (nI j)]) (rest := [.ref (ad 48)]) ⟨hx, hb, hml, hown, hts⟩ hE hI (c_X3_codeOf k l ad N g _ j (by omega)) (va_cwS 1 hts gX3_type_X3_codeOf rfl rfl rfl (by decide +kernel) ⟨Nat.le_of_ble_eq_true rfl, Nat.le_of_ble_eq_true rfl⟩) rfl hl.1 rfl (Nat.le_of_ble_eq_true rfl) dX3_type_107 ⟨Nat.le_of_ble_eq_true rfl, Nat.le_of_ble_eq_true rfl⟩ (m_deti (fun H locs hI => ?_))
        refine m_callVi (As := [.int (nI (cd j))]) (rest := []) ⟨hx, hb, hml, hown, hts⟩ hE hI (c_X0_add_in k l ad N g _ 48 120 n (fun j => nI (T j)) (nI (cd j)) (by omega) (by omega) (by omega) ⟨h48, h49⟩ (by omega)) (cwV 1 hts gX3_type_X0_add rfl rfl rfl (by decide +kernel) ⟨Nat.le_of_ble_eq_true rfl, Nat.le_of_ble_eq_true rfl⟩) (i := 48) (by omega) h48 rfl rfl hl.1 rfl (Nat.le_of_ble_eq_true rfl) dX3_type_110 ⟨Nat.le_of_ble_eq_true rfl, Nat.le_of_ble_eq_true rfl⟩ (m_deti (fun H locs hI => ?_))
        obtain ⟨g1, hg1⟩ : ∃ zz, zz = va_up (va_up g 49 (.inl (k.2.1.1, 120, .inl (upd (fun j => nI (T j)) n (nI (cd j)))))) 48 (.inr (0, [.ref (ad 49), .int (nI (n + 1))])) := ⟨_, rfl⟩
        replace hI : mI k ad N g1 (mA ad N s.heap.size) s H locs := by rw [hg1]; exact hI
        have m_1 : g1 0 = .inr (3, [.ref (ad 1), .ref (ad 6), .ref (ad 48), .int (nI rd), .int (bI fig), .int (bI uns), .int (nI came), .int mis, .int lost, .int bel]) := by rw [hg1, va_up_ne _ _ (by omega), va_up_ne _ _ (by omega)]; exact h0
        have m_2 : g1 1 = .inr (2, [.ref (ad 2), .ref (ad 4), .int (nI play)]) := by rw [hg1, va_up_ne _ _ (by omega), va_up_ne _ _ (by omega)]; exact h1
        have m_3 : g1 48 = .inr (0, [.ref (ad 49), .int (nI (n + 1))]) := by rw [hg1, va_up_self]
        have m_4 : g1 49 = .inl (k.2.1.1, 120, .inl (upd (fun j => nI (T j)) n (nI (cd j)))) := by rw [hg1, va_up_ne _ _ (by omega), va_up_self]
        have m_5 : g1 6 = .inr (1, [.ref (ad 7), .int (nI fi), .int (nI u)]) := by rw [hg1, va_up_ne _ _ (by omega), va_up_ne _ _ (by omega)]; exact h6
        refine lv_pop hx hb dX3_type_113 rfl ?_
        refine lv_iload hx hb dX3_type_114 (lv_at hl 0 rfl) ?_
        have hk9 : ∀ i, i < 48 ∨ 50 ≤ i → g1 i = g i := fun i hi => by rw [hg1, va_up_ne _ _ (by omega), va_up_ne _ _ (by omega)]
        have htyt : tyT uns T n j = va_up T n (cd j) := by unfold tyT; rw [htys] <;> rfl
        have hT9 : g1 49 = .inl (k.2.1.1, 120, .inl (fun i => nI (tyT uns T n j i))) := by rw [m_4, htyt, upd_nI]
        refine vx_ret ?_
        refine W.widen (k := 1) (n := 6) (by omega) (by omega) ?_
        exact m_iret hx hb hr hlocks hI (⟨c_4, by rw [htnj, htyn]; omega, by rw [htnj, htyn], by rw [htnj, htyn]; exact ⟨m_1, hWi.kept (fun i h1 h2 => hk9 i (by omega)), hSh.kept (fun i h1 h2 => hk9 i (by omega)), ⟨m_3, hT9⟩⟩, fun i hi => hk9 i (by omega)⟩) dX3_type_116
      · exact m_throwS hx hb hst hown (cls := "java/lang/IllegalStateException") (ik := 99) (is := 120) (ic := 103) x_fit99 (hts (.classLink RX3 99 "java/lang/IllegalStateException") (by decide +kernel)) (hts (.initialized "java/lang/IllegalStateException") (by decide +kernel)) (x_hat99 hE.1.2.2.2.2.2 (fun w h => hts w (List.mem_cons_of_mem _ (List.mem_append_right _ h)))) x_good99 (text := "the tape has no room") (by decide) hE hI (by rw [hml]; exact hl.1) dX3_type_69 dX3_type_72 dX3_type_73 dX3_type_75 dX3_type_78 htab hlocks (by decide) (Nat.le_of_ble_eq_true rfl) (Or.inr ⟨rfl, c_4, by rw [htnj, htyn]; omega⟩)
    · refine lv_iload_n hx hb dX3_type_32 rfl (lv_at hl 0 rfl) ?_
      refine lv_aload_n hx hb dX3_type_33 rfl (lv_at hl 1 rfl) ?_
      refine m_callVi (As := []) (rest := [.int (bI (decide (26 < j) && decide (j < 53)))]) ⟨hx, hb, hml, hown, hts⟩ hE hI (c_X3_figuresAtEnd k l ad N g _ rd fig uns came mis lost bel n T  (by omega) h0 (by omega) hT ⟨h48, h49⟩ ) (cwV 0 hts gX3_type_X3_figuresAtEnd rfl rfl rfl (by decide +kernel) ⟨Nat.le_of_ble_eq_true rfl, Nat.le_of_ble_eq_true rfl⟩) (i := 0) (by omega) h0 rfl rfl hl.1 rfl (Nat.le_of_ble_eq_true rfl) dX3_type_34 ⟨Nat.le_of_ble_eq_true rfl, Nat.le_of_ble_eq_true rfl⟩ (m_deti (fun H locs hI => ?_))
      refine m_ceqB (tgt := 44) hx hb dX3_type_37 (by decide) (fun c_37 => ?_) (fun c_37 => ?_)
      · have htys : tyS uns T n j = false := by unfold tyS; rw [c_29, c_37]; exact bne_self_eq_false _
        have htyn : tyN uns T n j = 1 := by unfold tyN; rw [htys] <;> rfl
        refine lv_iconst (v := nI 0) hx hb dX3_type_44 (by decide) ?_
        refine lv_istore_n (lv' := [(3, .int (nI 0)), (2, .int (bI (decide (26 < j) && decide (j < 53)))), (0, .ref (ad 0)), (1, .int (nI j))]) hx hb dX3_type_45 rfl hl (by decide) rfl (fun ls hl => ?_)
        refine lv_iload_n hx hb dX3_type_46 rfl (lv_at hl 0 rfl) ?_
        refine m_zeqN (tgt := 54) hx hb (by omega) dX3_type_47 (by decide) (fun c_47 => ?_) (fun c => absurd c (by decide))
        refine lv_iconst (v := nI 1) hx hb dX3_type_54 (by decide) ?_
        refine lv_istore (lv' := [(4, .int (nI 1)), (3, .int (nI 0)), (2, .int (bI (decide (26 < j) && decide (j < 53)))), (0, .ref (ad 0)), (1, .int (nI j))]) hx hb dX3_type_55 hl (by decide) rfl (fun ls hl => ?_)
        refine lv_aload_n hx hb dX3_type_57 rfl (lv_at hl 3 rfl) ?_
        refine m_get (ci := 3) (C := RX3) (T := TX3) (N' := 10) hx hb hts (by decide +kernel) hown hE hI 0 (by omega) h0 rfl 2 (by decide) (hts (.fieldLink RX3 28 "TapePrinter" "strip" "LTapePrinter$Row;") (by decide +kernel)) rfl dX3_type_58 ?_
        refine m_callVi (As := []) (rest := []) ⟨hx, hb, hml, hown, hts⟩ hE hI (c_X0_room k l ad N g _ 48 120 n (fun j => nI (T j))  (by omega) (by omega) (by omega) ⟨h48, h49⟩) (cwV 0 hts gX3_type_X0_room rfl rfl rfl (by decide +kernel) ⟨Nat.le_of_ble_eq_true rfl, Nat.le_of_ble_eq_true rfl⟩) (i := 48) (by omega) h48 rfl rfl hl.1 rfl (Nat.le_of_ble_eq_true rfl) dX3_type_61 ⟨Nat.le_of_ble_eq_true rfl, Nat.le_of_ble_eq_true rfl⟩ (m_deti (fun H locs hI => ?_))
        refine lv_iload hx hb dX3_type_64 (lv_at hl 0 rfl) ?_
        refine m_cgeN (tgt := 79) hx hb (by omega) (by omega) dX3_type_66 (by decide) (fun c_66 => ?_) (fun c_66 => ?_)
        · refine lv_iload_n hx hb dX3_type_79 rfl (lv_at hl 1 rfl) ?_
          refine m_zeqN (tgt := 102) hx hb (by omega) dX3_type_80 (by decide) (fun c_80 => ?_) (fun c => absurd c (by decide))
          refine lv_aload_n hx hb dX3_type_102 rfl (lv_at hl 3 rfl) ?_
          refine m_get (ci := 3) (C := RX3) (T := TX3) (N' := 10) hx hb hts (by decide +kernel) hown hE hI 0 (by omega) h0 rfl 2 (by decide) (hts (.fieldLink RX3 28 "TapePrinter" "strip" "LTapePrinter$Row;") (by decide +kernel)) rfl dX3_type_103 ?_
          refine lv_iload_n hx hb dX3_type_106 rfl (lv_at hl 4 rfl) ?_
          refine m_callSi (As := [.int (nI j)]) (rest := [.ref (ad 48)]) ⟨hx, hb, hml, hown, hts⟩ hE hI (c_X3_codeOf k l ad N g _ j (by omega)) (va_cwS 1 hts gX3_type_X3_codeOf rfl rfl rfl (by decide +kernel) ⟨Nat.le_of_ble_eq_true rfl, Nat.le_of_ble_eq_true rfl⟩) rfl hl.1 rfl (Nat.le_of_ble_eq_true rfl) dX3_type_107 ⟨Nat.le_of_ble_eq_true rfl, Nat.le_of_ble_eq_true rfl⟩ (m_deti (fun H locs hI => ?_))
          refine m_callVi (As := [.int (nI (cd j))]) (rest := []) ⟨hx, hb, hml, hown, hts⟩ hE hI (c_X0_add_in k l ad N g _ 48 120 n (fun j => nI (T j)) (nI (cd j)) (by omega) (by omega) (by omega) ⟨h48, h49⟩ (by omega)) (cwV 1 hts gX3_type_X0_add rfl rfl rfl (by decide +kernel) ⟨Nat.le_of_ble_eq_true rfl, Nat.le_of_ble_eq_true rfl⟩) (i := 48) (by omega) h48 rfl rfl hl.1 rfl (Nat.le_of_ble_eq_true rfl) dX3_type_110 ⟨Nat.le_of_ble_eq_true rfl, Nat.le_of_ble_eq_true rfl⟩ (m_deti (fun H locs hI => ?_))
          obtain ⟨g2, hg2⟩ : ∃ zz, zz = va_up (va_up g 49 (.inl (k.2.1.1, 120, .inl (upd (fun j => nI (T j)) n (nI (cd j)))))) 48 (.inr (0, [.ref (ad 49), .int (nI (n + 1))])) := ⟨_, rfl⟩
          replace hI : mI k ad N g2 (mA ad N s.heap.size) s H locs := by rw [hg2]; exact hI
          have m_6 : g2 0 = .inr (3, [.ref (ad 1), .ref (ad 6), .ref (ad 48), .int (nI rd), .int (bI fig), .int (bI uns), .int (nI came), .int mis, .int lost, .int bel]) := by rw [hg2, va_up_ne _ _ (by omega), va_up_ne _ _ (by omega)]; exact h0
          have m_7 : g2 1 = .inr (2, [.ref (ad 2), .ref (ad 4), .int (nI play)]) := by rw [hg2, va_up_ne _ _ (by omega), va_up_ne _ _ (by omega)]; exact h1
          have m_8 : g2 48 = .inr (0, [.ref (ad 49), .int (nI (n + 1))]) := by rw [hg2, va_up_self]
          have m_9 : g2 49 = .inl (k.2.1.1, 120, .inl (upd (fun j => nI (T j)) n (nI (cd j)))) := by rw [hg2, va_up_ne _ _ (by omega), va_up_self]
          have m_10 : g2 6 = .inr (1, [.ref (ad 7), .int (nI fi), .int (nI u)]) := by rw [hg2, va_up_ne _ _ (by omega), va_up_ne _ _ (by omega)]; exact h6
          refine lv_pop hx hb dX3_type_113 rfl ?_
          refine lv_iload hx hb dX3_type_114 (lv_at hl 0 rfl) ?_
          have hk9 : ∀ i, i < 48 ∨ 50 ≤ i → g2 i = g i := fun i hi => by rw [hg2, va_up_ne _ _ (by omega), va_up_ne _ _ (by omega)]
          have htyt : tyT uns T n j = va_up T n (cd j) := by unfold tyT; rw [htys] <;> rfl
          have hT9 : g2 49 = .inl (k.2.1.1, 120, .inl (fun i => nI (tyT uns T n j i))) := by rw [m_9, htyt, upd_nI]
          refine vx_ret ?_
          refine W.widen (k := 1) (n := 6) (by omega) (by omega) ?_
          exact m_iret hx hb hr hlocks hI (⟨c_4, by rw [htnj, htyn]; omega, by rw [htnj, htyn], by rw [htnj, htyn]; exact ⟨m_6, hWi.kept (fun i h1 h2 => hk9 i (by omega)), hSh.kept (fun i h1 h2 => hk9 i (by omega)), ⟨m_8, hT9⟩⟩, fun i hi => hk9 i (by omega)⟩) dX3_type_116
        · exact m_throwS hx hb hst hown (cls := "java/lang/IllegalStateException") (ik := 99) (is := 120) (ic := 103) x_fit99 (hts (.classLink RX3 99 "java/lang/IllegalStateException") (by decide +kernel)) (hts (.initialized "java/lang/IllegalStateException") (by decide +kernel)) (x_hat99 hE.1.2.2.2.2.2 (fun w h => hts w (List.mem_cons_of_mem _ (List.mem_append_right _ h)))) x_good99 (text := "the tape has no room") (by decide) hE hI (by rw [hml]; exact hl.1) dX3_type_69 dX3_type_72 dX3_type_73 dX3_type_75 dX3_type_78 htab hlocks (by decide) (Nat.le_of_ble_eq_true rfl) (Or.inr ⟨rfl, c_4, by rw [htnj, htyn]; omega⟩)
      · have htys : tyS uns T n j = true := by unfold tyS; rw [c_29]; exact bne_iff_ne.mpr c_37
        have htyn : tyN uns T n j = 2 := by unfold tyN; rw [htys] <;> rfl
        refine lv_iconst (v := nI 1) hx hb dX3_type_40 (by decide) ?_
        refine lv_goto (tgt := 45) hx hb dX3_type_41 (by decide) ?_
        refine lv_istore_n (lv' := [(3, .int (nI 1)), (2, .int (bI (decide (26 < j) && decide (j < 53)))), (0, .ref (ad 0)), (1, .int (nI j))]) hx hb dX3_type_45 rfl hl (by decide) rfl (fun ls hl => ?_)
        refine lv_iload_n hx hb dX3_type_46 rfl (lv_at hl 0 rfl) ?_
        refine m_zeqN (tgt := 54) hx hb (by omega) dX3_type_47 (by decide) (fun c => absurd c (by decide)) (fun c_47 => ?_)
        refine lv_iconst (v := nI 2) hx hb dX3_type_50 (by decide) ?_
        refine lv_goto (tgt := 55) hx hb dX3_type_51 (by decide) ?_
        refine lv_istore (lv' := [(4, .int (nI 2)), (3, .int (nI 1)), (2, .int (bI (decide (26 < j) && decide (j < 53)))), (0, .ref (ad 0)), (1, .int (nI j))]) hx hb dX3_type_55 hl (by decide) rfl (fun ls hl => ?_)
        refine lv_aload_n hx hb dX3_type_57 rfl (lv_at hl 3 rfl) ?_
        refine m_get (ci := 3) (C := RX3) (T := TX3) (N' := 10) hx hb hts (by decide +kernel) hown hE hI 0 (by omega) h0 rfl 2 (by decide) (hts (.fieldLink RX3 28 "TapePrinter" "strip" "LTapePrinter$Row;") (by decide +kernel)) rfl dX3_type_58 ?_
        refine m_callVi (As := []) (rest := []) ⟨hx, hb, hml, hown, hts⟩ hE hI (c_X0_room k l ad N g _ 48 120 n (fun j => nI (T j))  (by omega) (by omega) (by omega) ⟨h48, h49⟩) (cwV 0 hts gX3_type_X0_room rfl rfl rfl (by decide +kernel) ⟨Nat.le_of_ble_eq_true rfl, Nat.le_of_ble_eq_true rfl⟩) (i := 48) (by omega) h48 rfl rfl hl.1 rfl (Nat.le_of_ble_eq_true rfl) dX3_type_61 ⟨Nat.le_of_ble_eq_true rfl, Nat.le_of_ble_eq_true rfl⟩ (m_deti (fun H locs hI => ?_))
        refine lv_iload hx hb dX3_type_64 (lv_at hl 0 rfl) ?_
        refine m_cgeN (tgt := 79) hx hb (by omega) (by omega) dX3_type_66 (by decide) (fun c_66 => ?_) (fun c_66 => ?_)
        · refine lv_iload_n hx hb dX3_type_79 rfl (lv_at hl 1 rfl) ?_
          refine m_zeqN (tgt := 102) hx hb (by omega) dX3_type_80 (by decide) (fun c => absurd c (by decide)) (fun c_80 => ?_)
          refine lv_aload_n hx hb dX3_type_83 rfl (lv_at hl 3 rfl) ?_
          refine m_get (ci := 3) (C := RX3) (T := TX3) (N' := 10) hx hb hts (by decide +kernel) hown hE hI 0 (by omega) h0 rfl 2 (by decide) (hts (.fieldLink RX3 28 "TapePrinter" "strip" "LTapePrinter$Row;") (by decide +kernel)) rfl dX3_type_84 ?_
          refine lv_iload_n hx hb dX3_type_87 rfl (lv_at hl 2 rfl) ?_
          refine m_zeqB (tgt := 96) hx hb dX3_type_88 (by decide) (fun c_88 => ?_) (fun c_88 => ?_)
          · refine lv_bipush (v := nI 31) hx hb dX3_type_96 (by decide) ?_
            refine m_callVi (As := [.int (nI 31)]) (rest := []) ⟨hx, hb, hml, hown, hts⟩ hE hI (c_X0_add_in k l ad N g _ 48 120 n (fun j => nI (T j)) (nI 31) (by omega) (by omega) (by omega) ⟨h48, h49⟩ (by omega)) (cwV 1 hts gX3_type_X0_add rfl rfl rfl (by decide +kernel) ⟨Nat.le_of_ble_eq_true rfl, Nat.le_of_ble_eq_true rfl⟩) (i := 48) (by omega) h48 rfl rfl hl.1 rfl (Nat.le_of_ble_eq_true rfl) dX3_type_98 ⟨Nat.le_of_ble_eq_true rfl, Nat.le_of_ble_eq_true rfl⟩ (m_deti (fun H locs hI => ?_))
            obtain ⟨g3, hg3⟩ : ∃ zz, zz = va_up (va_up g 49 (.inl (k.2.1.1, 120, .inl (upd (fun j => nI (T j)) n (nI 31))))) 48 (.inr (0, [.ref (ad 49), .int (nI (n + 1))])) := ⟨_, rfl⟩
            replace hI : mI k ad N g3 (mA ad N s.heap.size) s H locs := by rw [hg3]; exact hI
            have m_11 : g3 0 = .inr (3, [.ref (ad 1), .ref (ad 6), .ref (ad 48), .int (nI rd), .int (bI fig), .int (bI uns), .int (nI came), .int mis, .int lost, .int bel]) := by rw [hg3, va_up_ne _ _ (by omega), va_up_ne _ _ (by omega)]; exact h0
            have m_12 : g3 1 = .inr (2, [.ref (ad 2), .ref (ad 4), .int (nI play)]) := by rw [hg3, va_up_ne _ _ (by omega), va_up_ne _ _ (by omega)]; exact h1
            have m_13 : g3 48 = .inr (0, [.ref (ad 49), .int (nI (n + 1))]) := by rw [hg3, va_up_self]
            have m_14 : g3 49 = .inl (k.2.1.1, 120, .inl (upd (fun j => nI (T j)) n (nI 31))) := by rw [hg3, va_up_ne _ _ (by omega), va_up_self]
            have m_15 : g3 6 = .inr (1, [.ref (ad 7), .int (nI fi), .int (nI u)]) := by rw [hg3, va_up_ne _ _ (by omega), va_up_ne _ _ (by omega)]; exact h6
            refine lv_pop hx hb dX3_type_101 rfl ?_
            refine lv_aload_n hx hb dX3_type_102 rfl (lv_at hl 3 rfl) ?_
            refine m_get (ci := 3) (C := RX3) (T := TX3) (N' := 10) hx hb hts (by decide +kernel) hown hE hI 0 (by omega) m_11 rfl 2 (by decide) (hts (.fieldLink RX3 28 "TapePrinter" "strip" "LTapePrinter$Row;") (by decide +kernel)) rfl dX3_type_103 ?_
            refine lv_iload_n hx hb dX3_type_106 rfl (lv_at hl 4 rfl) ?_
            refine m_callSi (As := [.int (nI j)]) (rest := [.ref (ad 48)]) ⟨hx, hb, hml, hown, hts⟩ hE hI (c_X3_codeOf k l ad N g3 _ j (by omega)) (va_cwS 1 hts gX3_type_X3_codeOf rfl rfl rfl (by decide +kernel) ⟨Nat.le_of_ble_eq_true rfl, Nat.le_of_ble_eq_true rfl⟩) rfl hl.1 rfl (Nat.le_of_ble_eq_true rfl) dX3_type_107 ⟨Nat.le_of_ble_eq_true rfl, Nat.le_of_ble_eq_true rfl⟩ (m_deti (fun H locs hI => ?_))
            refine m_callVi (As := [.int (nI (cd j))]) (rest := []) ⟨hx, hb, hml, hown, hts⟩ hE hI (c_X0_add_in k l ad N g3 _ 48 120 (n + 1) (upd (fun j => nI (T j)) n (nI 31)) (nI (cd j)) (by omega) (by omega) (by omega) ⟨m_13, m_14⟩ (by omega)) (cwV 1 hts gX3_type_X0_add rfl rfl rfl (by decide +kernel) ⟨Nat.le_of_ble_eq_true rfl, Nat.le_of_ble_eq_true rfl⟩) (i := 48) (by omega) m_13 rfl rfl hl.1 rfl (Nat.le_of_ble_eq_true rfl) dX3_type_110 ⟨Nat.le_of_ble_eq_true rfl, Nat.le_of_ble_eq_true rfl⟩ (m_deti (fun H locs hI => ?_))
            obtain ⟨g4, hg4⟩ : ∃ zz, zz = va_up (va_up g3 49 (.inl (k.2.1.1, 120, .inl (upd (upd (fun j => nI (T j)) n (nI 31)) (n + 1) (nI (cd j)))))) 48 (.inr (0, [.ref (ad 49), .int (nI ((n + 1) + 1))])) := ⟨_, rfl⟩
            replace hI : mI k ad N g4 (mA ad N s.heap.size) s H locs := by rw [hg4]; exact hI
            have m_16 : g4 0 = .inr (3, [.ref (ad 1), .ref (ad 6), .ref (ad 48), .int (nI rd), .int (bI fig), .int (bI uns), .int (nI came), .int mis, .int lost, .int bel]) := by rw [hg4, va_up_ne _ _ (by omega), va_up_ne _ _ (by omega)]; exact m_11
            have m_17 : g4 1 = .inr (2, [.ref (ad 2), .ref (ad 4), .int (nI play)]) := by rw [hg4, va_up_ne _ _ (by omega), va_up_ne _ _ (by omega)]; exact m_12
            have m_18 : g4 48 = .inr (0, [.ref (ad 49), .int (nI ((n + 1) + 1))]) := by rw [hg4, va_up_self]
            have m_19 : g4 49 = .inl (k.2.1.1, 120, .inl (upd (upd (fun j => nI (T j)) n (nI 31)) (n + 1) (nI (cd j)))) := by rw [hg4, va_up_ne _ _ (by omega), va_up_self]
            have m_20 : g4 6 = .inr (1, [.ref (ad 7), .int (nI fi), .int (nI u)]) := by rw [hg4, va_up_ne _ _ (by omega), va_up_ne _ _ (by omega)]; exact m_15
            refine lv_pop hx hb dX3_type_113 rfl ?_
            refine lv_iload hx hb dX3_type_114 (lv_at hl 0 rfl) ?_
            have hk9 : ∀ i, i < 48 ∨ 50 ≤ i → g4 i = g i := fun i hi => by rw [hg4, va_up_ne _ _ (by omega), va_up_ne _ _ (by omega), hg3, va_up_ne _ _ (by omega), va_up_ne _ _ (by omega)]
            have htyt : tyT uns T n j = va_up (va_up T n 31) (n + 1) (cd j) := by unfold tyT; rw [htys]; simp only [if_true]; rw [c_88] <;> rfl
            have hT9 : g4 49 = .inl (k.2.1.1, 120, .inl (fun i => nI (tyT uns T n j i))) := by rw [m_19, htyt, upd_nI, upd_nI]
            refine vx_ret ?_
            refine W.widen (k := 1) (n := 6) (by omega) (by omega) ?_
            exact m_iret hx hb hr hlocks hI (⟨c_4, by rw [htnj, htyn]; omega, by rw [htnj, htyn], by rw [htnj, htyn]; exact ⟨m_16, hWi.kept (fun i h1 h2 => hk9 i (by omega)), hSh.kept (fun i h1 h2 => hk9 i (by omega)), ⟨m_18, hT9⟩⟩, fun i hi => hk9 i (by omega)⟩) dX3_type_116
          · refine lv_bipush (v := nI 27) hx hb dX3_type_91 (by decide) ?_
            refine lv_goto (tgt := 98) hx hb dX3_type_93 (by decide) ?_
            refine m_callVi (As := [.int (nI 27)]) (rest := []) ⟨hx, hb, hml, hown, hts⟩ hE hI (c_X0_add_in k l ad N g _ 48 120 n (fun j => nI (T j)) (nI 27) (by omega) (by omega) (by omega) ⟨h48, h49⟩ (by omega)) (cwV 1 hts gX3_type_X0_add rfl rfl rfl (by decide +kernel) ⟨Nat.le_of_ble_eq_true rfl, Nat.le_of_ble_eq_true rfl⟩) (i := 48) (by omega) h48 rfl rfl hl.1 rfl (Nat.le_of_ble_eq_true rfl) dX3_type_98 ⟨Nat.le_of_ble_eq_true rfl, Nat.le_of_ble_eq_true rfl⟩ (m_deti (fun H locs hI => ?_))
            obtain ⟨g5, hg5⟩ : ∃ zz, zz = va_up (va_up g 49 (.inl (k.2.1.1, 120, .inl (upd (fun j => nI (T j)) n (nI 27))))) 48 (.inr (0, [.ref (ad 49), .int (nI (n + 1))])) := ⟨_, rfl⟩
            replace hI : mI k ad N g5 (mA ad N s.heap.size) s H locs := by rw [hg5]; exact hI
            have m_21 : g5 0 = .inr (3, [.ref (ad 1), .ref (ad 6), .ref (ad 48), .int (nI rd), .int (bI fig), .int (bI uns), .int (nI came), .int mis, .int lost, .int bel]) := by rw [hg5, va_up_ne _ _ (by omega), va_up_ne _ _ (by omega)]; exact h0
            have m_22 : g5 1 = .inr (2, [.ref (ad 2), .ref (ad 4), .int (nI play)]) := by rw [hg5, va_up_ne _ _ (by omega), va_up_ne _ _ (by omega)]; exact h1
            have m_23 : g5 48 = .inr (0, [.ref (ad 49), .int (nI (n + 1))]) := by rw [hg5, va_up_self]
            have m_24 : g5 49 = .inl (k.2.1.1, 120, .inl (upd (fun j => nI (T j)) n (nI 27))) := by rw [hg5, va_up_ne _ _ (by omega), va_up_self]
            have m_25 : g5 6 = .inr (1, [.ref (ad 7), .int (nI fi), .int (nI u)]) := by rw [hg5, va_up_ne _ _ (by omega), va_up_ne _ _ (by omega)]; exact h6
            refine lv_pop hx hb dX3_type_101 rfl ?_
            refine lv_aload_n hx hb dX3_type_102 rfl (lv_at hl 3 rfl) ?_
            refine m_get (ci := 3) (C := RX3) (T := TX3) (N' := 10) hx hb hts (by decide +kernel) hown hE hI 0 (by omega) m_21 rfl 2 (by decide) (hts (.fieldLink RX3 28 "TapePrinter" "strip" "LTapePrinter$Row;") (by decide +kernel)) rfl dX3_type_103 ?_
            refine lv_iload_n hx hb dX3_type_106 rfl (lv_at hl 4 rfl) ?_
            refine m_callSi (As := [.int (nI j)]) (rest := [.ref (ad 48)]) ⟨hx, hb, hml, hown, hts⟩ hE hI (c_X3_codeOf k l ad N g5 _ j (by omega)) (va_cwS 1 hts gX3_type_X3_codeOf rfl rfl rfl (by decide +kernel) ⟨Nat.le_of_ble_eq_true rfl, Nat.le_of_ble_eq_true rfl⟩) rfl hl.1 rfl (Nat.le_of_ble_eq_true rfl) dX3_type_107 ⟨Nat.le_of_ble_eq_true rfl, Nat.le_of_ble_eq_true rfl⟩ (m_deti (fun H locs hI => ?_))
            refine m_callVi (As := [.int (nI (cd j))]) (rest := []) ⟨hx, hb, hml, hown, hts⟩ hE hI (c_X0_add_in k l ad N g5 _ 48 120 (n + 1) (upd (fun j => nI (T j)) n (nI 27)) (nI (cd j)) (by omega) (by omega) (by omega) ⟨m_23, m_24⟩ (by omega)) (cwV 1 hts gX3_type_X0_add rfl rfl rfl (by decide +kernel) ⟨Nat.le_of_ble_eq_true rfl, Nat.le_of_ble_eq_true rfl⟩) (i := 48) (by omega) m_23 rfl rfl hl.1 rfl (Nat.le_of_ble_eq_true rfl) dX3_type_110 ⟨Nat.le_of_ble_eq_true rfl, Nat.le_of_ble_eq_true rfl⟩ (m_deti (fun H locs hI => ?_))
            obtain ⟨g6, hg6⟩ : ∃ zz, zz = va_up (va_up g5 49 (.inl (k.2.1.1, 120, .inl (upd (upd (fun j => nI (T j)) n (nI 27)) (n + 1) (nI (cd j)))))) 48 (.inr (0, [.ref (ad 49), .int (nI ((n + 1) + 1))])) := ⟨_, rfl⟩
            replace hI : mI k ad N g6 (mA ad N s.heap.size) s H locs := by rw [hg6]; exact hI
            have m_26 : g6 0 = .inr (3, [.ref (ad 1), .ref (ad 6), .ref (ad 48), .int (nI rd), .int (bI fig), .int (bI uns), .int (nI came), .int mis, .int lost, .int bel]) := by rw [hg6, va_up_ne _ _ (by omega), va_up_ne _ _ (by omega)]; exact m_21
            have m_27 : g6 1 = .inr (2, [.ref (ad 2), .ref (ad 4), .int (nI play)]) := by rw [hg6, va_up_ne _ _ (by omega), va_up_ne _ _ (by omega)]; exact m_22
            have m_28 : g6 48 = .inr (0, [.ref (ad 49), .int (nI ((n + 1) + 1))]) := by rw [hg6, va_up_self]
            have m_29 : g6 49 = .inl (k.2.1.1, 120, .inl (upd (upd (fun j => nI (T j)) n (nI 27)) (n + 1) (nI (cd j)))) := by rw [hg6, va_up_ne _ _ (by omega), va_up_self]
            have m_30 : g6 6 = .inr (1, [.ref (ad 7), .int (nI fi), .int (nI u)]) := by rw [hg6, va_up_ne _ _ (by omega), va_up_ne _ _ (by omega)]; exact m_25
            refine lv_pop hx hb dX3_type_113 rfl ?_
            refine lv_iload hx hb dX3_type_114 (lv_at hl 0 rfl) ?_
            have hk9 : ∀ i, i < 48 ∨ 50 ≤ i → g6 i = g i := fun i hi => by rw [hg6, va_up_ne _ _ (by omega), va_up_ne _ _ (by omega), hg5, va_up_ne _ _ (by omega), va_up_ne _ _ (by omega)]
            have htyt : tyT uns T n j = va_up (va_up T n 27) (n + 1) (cd j) := by unfold tyT; rw [htys]; simp only [if_true]; rw [c_88] <;> rfl
            have hT9 : g6 49 = .inl (k.2.1.1, 120, .inl (fun i => nI (tyT uns T n j i))) := by rw [m_29, htyt, upd_nI, upd_nI]
            refine vx_ret ?_
            refine W.widen (k := 1) (n := 6) (by omega) (by omega) ?_
            exact m_iret hx hb hr hlocks hI (⟨c_4, by rw [htnj, htyn]; omega, by rw [htnj, htyn], by rw [htnj, htyn]; exact ⟨m_26, hWi.kept (fun i h1 h2 => hk9 i (by omega)), hSh.kept (fun i h1 h2 => hk9 i (by omega)), ⟨m_28, hT9⟩⟩, fun i hi => hk9 i (by omega)⟩) dX3_type_116
        · exact m_throwS hx hb hst hown (cls := "java/lang/IllegalStateException") (ik := 99) (is := 120) (ic := 103) x_fit99 (hts (.classLink RX3 99 "java/lang/IllegalStateException") (by decide +kernel)) (hts (.initialized "java/lang/IllegalStateException") (by decide +kernel)) (x_hat99 hE.1.2.2.2.2.2 (fun w h => hts w (List.mem_cons_of_mem _ (List.mem_append_right _ h)))) x_good99 (text := "the tape has no room") (by decide) hE hI (by rw [hml]; exact hl.1) dX3_type_69 dX3_type_72 dX3_type_73 dX3_type_75 dX3_type_78 htab hlocks (by decide) (Nat.le_of_ble_eq_true rfl) (Or.inr ⟨rfl, c_4, by rw [htnj, htyn]; omega⟩)
  · exact m_throwS hx hb hst hown (cls := "java/lang/IndexOutOfBoundsException") (ik := 36) (is := 38) (ic := 40) x_fit36 (hts (.classLink RX3 36 "java/lang/IndexOutOfBoundsException") (by decide +kernel)) (hts (.initialized "java/lang/IndexOutOfBoundsException") (by decide +kernel)) (x_hat36 hE.1.2.2.2.2.2 (fun w h => hts w (List.mem_cons_of_mem _ (List.mem_append_left _ (List.mem_append_right _ h))))) x_good36 (text := "no such character") (by decide) hE hI (by rw [hml]; exact hl.1) dX3_type_7 dX3_type_10 dX3_type_11 dX3_type_13 dX3_type_16 htab hlocks (by decide) (Nat.le_of_ble_eq_true rfl) (Or.inl ⟨rfl, c_4⟩)
set_option maxHeartbeats 8000000 in
set_option maxRecDepth 100000 in
theorem c_X3_rub (k : mC) (l : Launch) (hst : l.stackTraces = false) (ad : Nat → Nat) (N : Nat) (g : Nat → va_E) (sz : Nat) (uns : Bool) (play rd n : Nat) (lat : Nat → Int32) (gar T : Nat → Nat) (came : Nat) (mis lost bel : Int32) (fig : Bool) (fi u : Nat) (z : Nat → Nat) (F : Nat → Nat → Nat) (r : Nat → Option Nat) (p0 : Int32) (hN : 50 ≤ N) (hW : CW play rd n lat gar T) (hwf : cWf (fi, u, z, F)) (hcame : came < 2000000000) (hC : CR k ad g uns play rd n lat gar T (came, mis, lost, bel, fig, fi, u, z, F) r)  : mXi k l yX3_rub wsX3_rub { frames := 6, cells := 1, slots := 6, locals := 82 } ad N g sz [.ref (ad 0), .int p0] (fun r1 g1 => inN p0 n = true ∧ r1 = nI (T (tn p0)) ∧ CR k ad g1 uns play rd n lat gar (va_up T (tn p0) 31) (came, mis, lost, bel, fig, fi, u, z, F) r ∧ ∀ i, 50 ≤ i → g1 i = g i) (fun E => E = "java/lang/IndexOutOfBoundsException" ∧ inN p0 n = false) := by
  refine mOfX (cc := cX3_rub) (maxL := 3) (ret := (some .int)) (by decide) rfl (Nat.le_of_ble_eq_true rfl) ?_
  intro p e s m below meth c hx hb hr hts hown hlocks hml htab hE hI ls hl
  have hl : lv_has ls 3 [(0, .ref (ad 0)), (1, .int p0)] := hl
  have h0 : g 0 = .inr (3, [.ref (ad 1), .ref (ad 6), .ref (ad 48), .int (nI rd), .int (bI fig), .int (bI uns), .int (nI came), .int mis, .int lost, .int bel]) := hC.1
  have hWi : CWi k ad g play lat gar := hC.2.1
  have hSh : CSh k ad g fi u z F r := hC.2.2.1
  have h48 : g 48 = .inr (0, [.ref (ad 49), .int (nI n)]) := hC.2.2.2.1
  have h49 : g 49 = .inl (k.2.1.1, 120, .inl (fun j => nI (T j))) := hC.2.2.2.2
  have hr48 : CRow k ad g 48 120 n (fun j => nI (T j)) := ⟨h48, h49⟩
  have h1 := hWi.1
  have h6 : g 6 = .inr (1, [.ref (ad 7), .int (nI fi), .int (nI u)]) := hSh.1
  obtain ⟨hplay, hrd, hn, hgar, hT, hlat⟩ := id hW
  have hfi : fi < 20 := hwf.1
  have hu0 : 0 < u := hwf.2.1
  have hu : u ≤ 20 := hwf.2.2
  refine lv_aload_n hx hb dX3_rub_0 rfl (lv_at hl 0 rfl) ?_
  refine m_get (ci := 3) (C := RX3) (T := TX3) (N' := 10) hx hb hts (by decide +kernel) hown hE hI 0 (by omega) h0 rfl 2 (by decide) (hts (.fieldLink RX3 28 "TapePrinter" "strip" "LTapePrinter$Row;") (by decide +kernel)) rfl dX3_rub_1 ?_
  refine lv_iload_n hx hb dX3_rub_4 rfl (lv_at hl 1 rfl) ?_
  refine m_callVi (As := [.int p0]) (rest := []) ⟨hx, hb, hml, hown, hts⟩ hE hI (c_X0_has k l ad N g _ 48 120 n (fun j => nI (T j)) p0 (by omega) (by omega) (by omega) ⟨h48, h49⟩) (cwV 1 hts gX3_rub_X0_has rfl rfl rfl (by decide +kernel) ⟨Nat.le_of_ble_eq_true rfl, Nat.le_of_ble_eq_true rfl⟩) (i := 48) (by omega) h48 rfl rfl hl.1 rfl (Nat.le_of_ble_eq_true rfl) dX3_rub_5 ⟨Nat.le_of_ble_eq_true rfl, Nat.le_of_ble_eq_true rfl⟩ (m_deti (fun H locs hI => ?_))
  refine m_zneB (tgt := 21) hx hb dX3_rub_8 (by decide) (fun c_8 => ?_) (fun c_8 => ?_)
  · obtain ⟨j, hj, rfl⟩ := inN_ex c_8 (by omega)
    have htnj := tn_nI (j := j) (by omega)
    have hl : lv_has ls 3 [(0, .ref (ad 0)), (1, .int (nI j))] := hl
    refine lv_aload_n hx hb dX3_rub_21 rfl (lv_at hl 0 rfl) ?_
    refine m_get (ci := 3) (C := RX3) (T := TX3) (N' := 10) hx hb hts (by decide +kernel) hown hE hI 0 (by omega) h0 rfl 2 (by decide) (hts (.fieldLink RX3 28 "TapePrinter" "strip" "LTapePrinter$Row;") (by decide +kernel)) rfl dX3_rub_22 ?_
    refine lv_iload_n hx hb dX3_rub_25 rfl (lv_at hl 1 rfl) ?_
    refine m_callVi (As := [.int (nI j)]) (rest := []) ⟨hx, hb, hml, hown, hts⟩ hE hI (c_X0_at k l ad N g _ 48 120 n (fun j => nI (T j)) j (by omega) (by omega) (by omega) ⟨h48, h49⟩ (by omega)) (cwV 1 hts gX3_rub_X0_at rfl rfl rfl (by decide +kernel) ⟨Nat.le_of_ble_eq_true rfl, Nat.le_of_ble_eq_true rfl⟩) (i := 48) (by omega) h48 rfl rfl hl.1 rfl (Nat.le_of_ble_eq_true rfl) dX3_rub_26 ⟨Nat.le_of_ble_eq_true rfl, Nat.le_of_ble_eq_true rfl⟩ (m_deti (fun H locs hI => ?_))
    refine m_top (show (fun j => nI (T j)) j = nI (T j) from rfl) ?_
    have ht_1 := hT j
    refine lv_istore_n (lv' := [(2, .int (nI (T j))), (0, .ref (ad 0)), (1, .int (nI j))]) hx hb dX3_rub_29 rfl hl (by decide) rfl (fun ls hl => ?_)
    refine lv_aload_n hx hb dX3_rub_30 rfl (lv_at hl 1 rfl) ?_
    refine m_get (ci := 3) (C := RX3) (T := TX3) (N' := 10) hx hb hts (by decide +kernel) hown hE hI 0 (by omega) h0 rfl 2 (by decide) (hts (.fieldLink RX3 28 "TapePrinter" "strip" "LTapePrinter$Row;") (by decide +kernel)) rfl dX3_rub_31 ?_
    refine lv_iload_n hx hb dX3_rub_34 rfl (lv_at hl 2 rfl) ?_
    refine lv_bipush (v := nI 31) hx hb dX3_rub_35 (by decide) ?_
    refine m_callVv (As := [.int (nI j), .int (nI 31)]) (rest := []) ⟨hx, hb, hml, hown, hts⟩ hE hI (c_X0_change k l ad N g _ 48 120 n (fun j => nI (T j)) j (nI 31) (by omega) (by omega) (by omega) ⟨h48, h49⟩ (by omega)) (cwV 2 hts gX3_rub_X0_change rfl rfl rfl (by decide +kernel) ⟨Nat.le_of_ble_eq_true rfl, Nat.le_of_ble_eq_true rfl⟩) (i := 48) (by omega) h48 rfl rfl hl.1 rfl (Nat.le_of_ble_eq_true rfl) dX3_rub_37 ⟨Nat.le_of_ble_eq_true rfl, Nat.le_of_ble_eq_true rfl⟩ (m_detv (fun H locs hI => ?_))
    obtain ⟨g1, hg1⟩ : ∃ zz, zz = va_up g 49 (.inl (k.2.1.1, 120, .inl (upd (fun j => nI (T j)) j (nI 31)))) := ⟨_, rfl⟩
    replace hI : mI k ad N g1 (mA ad N s.heap.size) s H locs := by rw [hg1]; exact hI
    have m_2 : g1 0 = .inr (3, [.ref (ad 1), .ref (ad 6), .ref (ad 48), .int (nI rd), .int (bI fig), .int (bI uns), .int (nI came), .int mis, .int lost, .int bel]) := by rw [hg1, va_up_ne _ _ (by omega)]; exact h0
    have m_3 : g1 1 = .inr (2, [.ref (ad 2), .ref (ad 4), .int (nI play)]) := by rw [hg1, va_up_ne _ _ (by omega)]; exact h1
    have m_4 : g1 48 = .inr (0, [.ref (ad 49), .int (nI n)]) := by rw [hg1, va_up_ne _ _ (by omega)]; exact h48
    have m_5 : g1 49 = .inl (k.2.1.1, 120, .inl (upd (fun j => nI (T j)) j (nI 31))) := by rw [hg1, va_up_self]
    have m_6 : g1 6 = .inr (1, [.ref (ad 7), .int (nI fi), .int (nI u)]) := by rw [hg1, va_up_ne _ _ (by omega)]; exact h6
    refine lv_iload_n hx hb dX3_rub_40 rfl (lv_at hl 0 rfl) ?_
    have hk9 : ∀ i, i ≠ 49 → g1 i = g i := fun i hi => by rw [hg1, va_up_ne _ _ hi]
    have hT9 : g1 49 = .inl (k.2.1.1, 120, .inl (fun i => nI (va_up T j 31 i))) := by rw [m_5, upd_nI]
    refine vx_ret ?_
    refine W.widen (k := 1) (n := 6) (by omega) (by omega) ?_
    exact m_iret hx hb hr hlocks hI (⟨c_8, by rw [htnj], by rw [htnj]; exact ⟨m_2, hWi.kept (fun i h1 h2 => hk9 i (by omega)), hSh.kept (fun i h1 h2 => hk9 i (by omega)), ⟨m_4, hT9⟩⟩, fun i hi => hk9 i (by omega)⟩) dX3_rub_41
  · exact m_throwS hx hb hst hown (cls := "java/lang/IndexOutOfBoundsException") (ik := 36) (is := 125) (ic := 40) x_fit36 (hts (.classLink RX3 36 "java/lang/IndexOutOfBoundsException") (by decide +kernel)) (hts (.initialized "java/lang/IndexOutOfBoundsException") (by decide +kernel)) (x_hat36 hE.1.2.2.2.2.2 (fun w h => hts w (List.mem_cons_of_mem _ (List.mem_append_right _ h)))) x_good36 (text := "no such place of the tape") (by decide) hE hI (by rw [hml]; exact hl.1) dX3_rub_11 dX3_rub_14 dX3_rub_15 dX3_rub_17 dX3_rub_20 htab hlocks (by decide) (Nat.le_of_ble_eq_true rfl) (⟨rfl, c_8⟩)
set_option maxHeartbeats 8000000 in
set_option maxRecDepth 100000 in
theorem c_X3_tape (k : mC) (l : Launch) (hst : l.stackTraces = false) (ad : Nat → Nat) (N : Nat) (g : Nat → va_E) (sz : Nat) (uns : Bool) (play rd n : Nat) (lat : Nat → Int32) (gar T : Nat → Nat) (came : Nat) (mis lost bel : Int32) (fig : Bool) (fi u : Nat) (z : Nat → Nat) (F : Nat → Nat → Nat) (r : Nat → Option Nat) (p0 : Int32) (hN : 50 ≤ N) (hW : CW play rd n lat gar T) (hwf : cWf (fi, u, z, F)) (hcame : came < 2000000000) (hC : CR k ad g uns play rd n lat gar T (came, mis, lost, bel, fig, fi, u, z, F) r)  : mXi k l yX3_tape wsX3_tape { frames := 6, cells := 1, slots := 6, locals := 82 } ad N g sz [.ref (ad 0), .int p0] (fun r1 g1 => inN p0 n = true ∧ r1 = nI (T (tn p0)) ∧ g1 = g) (fun E => E = "java/lang/IndexOutOfBoundsException" ∧ inN p0 n = false) := by
  refine mOfX (cc := cX3_tape) (maxL := 2) (ret := (some .int)) (by decide) rfl (Nat.le_of_ble_eq_true rfl) ?_
  intro p e s m below meth c hx hb hr hts hown hlocks hml htab hE hI ls hl
  have hl : lv_has ls 2 [(0, .ref (ad 0)), (1, .int p0)] := hl
  have h0 : g 0 = .inr (3, [.ref (ad 1), .ref (ad 6), .ref (ad 48), .int (nI rd), .int (bI fig), .int (bI uns), .int (nI came), .int mis, .int lost, .int bel]) := hC.1
  have hWi : CWi k ad g play lat gar := hC.2.1
  have hSh : CSh k ad g fi u z F r := hC.2.2.1
  have h48 : g 48 = .inr (0, [.ref (ad 49), .int (nI n)]) := hC.2.2.2.1
  have h49 : g 49 = .inl (k.2.1.1, 120, .inl (fun j => nI (T j))) := hC.2.2.2.2
  have hr48 : CRow k ad g 48 120 n (fun j => nI (T j)) := ⟨h48, h49⟩
  have h1 := hWi.1
  have h6 : g 6 = .inr (1, [.ref (ad 7), .int (nI fi), .int (nI u)]) := hSh.1
  obtain ⟨hplay, hrd, hn, hgar, hT, hlat⟩ := id hW
  have hfi : fi < 20 := hwf.1
  have hu0 : 0 < u := hwf.2.1
  have hu : u ≤ 20 := hwf.2.2
  refine lv_aload_n hx hb dX3_tape_0 rfl (lv_at hl 0 rfl) ?_
  refine m_get (ci := 3) (C := RX3) (T := TX3) (N' := 10) hx hb hts (by decide +kernel) hown hE hI 0 (by omega) h0 rfl 2 (by decide) (hts (.fieldLink RX3 28 "TapePrinter" "strip" "LTapePrinter$Row;") (by decide +kernel)) rfl dX3_tape_1 ?_
  refine lv_iload_n hx hb dX3_tape_4 rfl (lv_at hl 1 rfl) ?_
  refine m_callVi (As := [.int p0]) (rest := []) ⟨hx, hb, hml, hown, hts⟩ hE hI (c_X0_has k l ad N g _ 48 120 n (fun j => nI (T j)) p0 (by omega) (by omega) (by omega) ⟨h48, h49⟩) (cwV 1 hts gX3_tape_X0_has rfl rfl rfl (by decide +kernel) ⟨Nat.le_of_ble_eq_true rfl, Nat.le_of_ble_eq_true rfl⟩) (i := 48) (by omega) h48 rfl rfl hl.1 rfl (Nat.le_of_ble_eq_true rfl) dX3_tape_5 ⟨Nat.le_of_ble_eq_true rfl, Nat.le_of_ble_eq_true rfl⟩ (m_deti (fun H locs hI => ?_))
  refine m_zneB (tgt := 21) hx hb dX3_tape_8 (by decide) (fun c_8 => ?_) (fun c_8 => ?_)
  · obtain ⟨j, hj, rfl⟩ := inN_ex c_8 (by omega)
    have htnj := tn_nI (j := j) (by omega)
    have hl : lv_has ls 2 [(0, .ref (ad 0)), (1, .int (nI j))] := hl
    refine lv_aload_n hx hb dX3_tape_21 rfl (lv_at hl 0 rfl) ?_
    refine m_get (ci := 3) (C := RX3) (T := TX3) (N' := 10) hx hb hts (by decide +kernel) hown hE hI 0 (by omega) h0 rfl 2 (by decide) (hts (.fieldLink RX3 28 "TapePrinter" "strip" "LTapePrinter$Row;") (by decide +kernel)) rfl dX3_tape_22 ?_
    refine lv_iload_n hx hb dX3_tape_25 rfl (lv_at hl 1 rfl) ?_
    refine m_callVi (As := [.int (nI j)]) (rest := []) ⟨hx, hb, hml, hown, hts⟩ hE hI (c_X0_at k l ad N g _ 48 120 n (fun j => nI (T j)) j (by omega) (by omega) (by omega) ⟨h48, h49⟩ (by omega)) (cwV 1 hts gX3_tape_X0_at rfl rfl rfl (by decide +kernel) ⟨Nat.le_of_ble_eq_true rfl, Nat.le_of_ble_eq_true rfl⟩) (i := 48) (by omega) h48 rfl rfl hl.1 rfl (Nat.le_of_ble_eq_true rfl) dX3_tape_26 ⟨Nat.le_of_ble_eq_true rfl, Nat.le_of_ble_eq_true rfl⟩ (m_deti (fun H locs hI => ?_))
    refine m_top (show (fun j => nI (T j)) j = nI (T j) from rfl) ?_
    have ht_1 := hT j
    refine vx_ret ?_
    refine W.widen (k := 1) (n := 6) (by omega) (by omega) ?_
    exact m_iret hx hb hr hlocks hI (⟨c_8, by rw [htnj], rfl⟩) dX3_tape_29
  · exact m_throwS hx hb hst hown (cls := "java/lang/IndexOutOfBoundsException") (ik := 36) (is := 125) (ic := 40) x_fit36 (hts (.classLink RX3 36 "java/lang/IndexOutOfBoundsException") (by decide +kernel)) (hts (.initialized "java/lang/IndexOutOfBoundsException") (by decide +kernel)) (x_hat36 hE.1.2.2.2.2.2 (fun w h => hts w (List.mem_cons_of_mem _ (List.mem_append_right _ h)))) x_good36 (text := "no such place of the tape") (by decide) hE hI (by rw [hml]; exact hl.1) dX3_tape_11 dX3_tape_14 dX3_tape_15 dX3_tape_17 dX3_tape_20 htab hlocks (by decide) (Nat.le_of_ble_eq_true rfl) (⟨rfl, c_8⟩)
set_option maxHeartbeats 8000000 in
set_option maxRecDepth 100000 in
theorem c_X3_prints (k : mC) (l : Launch) (hst : l.stackTraces = false) (ad : Nat → Nat) (N : Nat) (g : Nat → va_E) (sz : Nat) (uns : Bool) (play rd n : Nat) (lat : Nat → Int32) (gar T : Nat → Nat) (came : Nat) (mis lost bel : Int32) (fig : Bool) (fi u : Nat) (z : Nat → Nat) (F : Nat → Nat → Nat) (r : Nat → Option Nat) (p0 : Int32) (hN : 50 ≤ N) (hW : CW play rd n lat gar T) (hwf : cWf (fi, u, z, F)) (hcame : came < 2000000000) (hC : CR k ad g uns play rd n lat gar T (came, mis, lost, bel, fig, fi, u, z, F) r)  : mXi k l yX3_prints wsX3_prints { frames := 6, cells := 1, slots := 6, locals := 82 } ad N g sz [.ref (ad 0), .int p0] (fun r1 g1 => inN p0 n = true ∧ r1 = nI (chF (T (tn p0)) (fa uns T (tn p0))) ∧ g1 = g) (fun E => E = "java/lang/IndexOutOfBoundsException" ∧ inN p0 n = false) := by
  refine mOfX (cc := cX3_prints) (maxL := 2) (ret := (some .int)) (by decide) rfl (Nat.le_of_ble_eq_true rfl) ?_
  intro p e s m below meth c hx hb hr hts hown hlocks hml htab hE hI ls hl
  have hl : lv_has ls 2 [(0, .ref (ad 0)), (1, .int p0)] := hl
  have h0 : g 0 = .inr (3, [.ref (ad 1), .ref (ad 6), .ref (ad 48), .int (nI rd), .int (bI fig), .int (bI uns), .int (nI came), .int mis, .int lost, .int bel]) := hC.1
  have hWi : CWi k ad g play lat gar := hC.2.1
  have hSh : CSh k ad g fi u z F r := hC.2.2.1
  have h48 : g 48 = .inr (0, [.ref (ad 49), .int (nI n)]) := hC.2.2.2.1
  have h49 : g 49 = .inl (k.2.1.1, 120, .inl (fun j => nI (T j))) := hC.2.2.2.2
  have hr48 : CRow k ad g 48 120 n (fun j => nI (T j)) := ⟨h48, h49⟩
  have h1 := hWi.1
  have h6 : g 6 = .inr (1, [.ref (ad 7), .int (nI fi), .int (nI u)]) := hSh.1
  obtain ⟨hplay, hrd, hn, hgar, hT, hlat⟩ := id hW
  have hfi : fi < 20 := hwf.1
  have hu0 : 0 < u := hwf.2.1
  have hu : u ≤ 20 := hwf.2.2
  refine lv_aload_n hx hb dX3_prints_0 rfl (lv_at hl 0 rfl) ?_
  refine m_get (ci := 3) (C := RX3) (T := TX3) (N' := 10) hx hb hts (by decide +kernel) hown hE hI 0 (by omega) h0 rfl 2 (by decide) (hts (.fieldLink RX3 28 "TapePrinter" "strip" "LTapePrinter$Row;") (by decide +kernel)) rfl dX3_prints_1 ?_
  refine lv_iload_n hx hb dX3_prints_4 rfl (lv_at hl 1 rfl) ?_
  refine m_callVi (As := [.int p0]) (rest := []) ⟨hx, hb, hml, hown, hts⟩ hE hI (c_X0_has k l ad N g _ 48 120 n (fun j => nI (T j)) p0 (by omega) (by omega) (by omega) ⟨h48, h49⟩) (cwV 1 hts gX3_prints_X0_has rfl rfl rfl (by decide +kernel) ⟨Nat.le_of_ble_eq_true rfl, Nat.le_of_ble_eq_true rfl⟩) (i := 48) (by omega) h48 rfl rfl hl.1 rfl (Nat.le_of_ble_eq_true rfl) dX3_prints_5 ⟨Nat.le_of_ble_eq_true rfl, Nat.le_of_ble_eq_true rfl⟩ (m_deti (fun H locs hI => ?_))
  refine m_zneB (tgt := 21) hx hb dX3_prints_8 (by decide) (fun c_8 => ?_) (fun c_8 => ?_)
  · obtain ⟨j, hj, rfl⟩ := inN_ex c_8 (by omega)
    have htnj := tn_nI (j := j) (by omega)
    have hl : lv_has ls 2 [(0, .ref (ad 0)), (1, .int (nI j))] := hl
    refine lv_aload_n hx hb dX3_prints_21 rfl (lv_at hl 0 rfl) ?_
    refine m_get (ci := 3) (C := RX3) (T := TX3) (N' := 10) hx hb hts (by decide +kernel) hown hE hI 0 (by omega) h0 rfl 2 (by decide) (hts (.fieldLink RX3 28 "TapePrinter" "strip" "LTapePrinter$Row;") (by decide +kernel)) rfl dX3_prints_22 ?_
    refine lv_iload_n hx hb dX3_prints_25 rfl (lv_at hl 1 rfl) ?_
    refine m_callVi (As := [.int (nI j)]) (rest := []) ⟨hx, hb, hml, hown, hts⟩ hE hI (c_X0_at k l ad N g _ 48 120 n (fun j => nI (T j)) j (by omega) (by omega) (by omega) ⟨h48, h49⟩ (by omega)) (cwV 1 hts gX3_prints_X0_at rfl rfl rfl (by decide +kernel) ⟨Nat.le_of_ble_eq_true rfl, Nat.le_of_ble_eq_true rfl⟩) (i := 48) (by omega) h48 rfl rfl hl.1 rfl (Nat.le_of_ble_eq_true rfl) dX3_prints_26 ⟨Nat.le_of_ble_eq_true rfl, Nat.le_of_ble_eq_true rfl⟩ (m_deti (fun H locs hI => ?_))
    refine m_top (show (fun j => nI (T j)) j = nI (T j) from rfl) ?_
    have ht_1 := hT j
    refine lv_aload_n hx hb dX3_prints_29 rfl (lv_at hl 0 rfl) ?_
    refine lv_iload_n hx hb dX3_prints_30 rfl (lv_at hl 1 rfl) ?_
    refine m_callVi (As := [.int (nI j)]) (rest := [.int (nI (T j))]) ⟨hx, hb, hml, hown, hts⟩ hE hI (c_X3_figuresAhead k l ad N g _ rd fig uns came mis lost bel n T j (by omega) h0 (by omega) hT ⟨h48, h49⟩ (by omega)) (cwV 1 hts gX3_prints_X3_figuresAhead rfl rfl rfl (by decide +kernel) ⟨Nat.le_of_ble_eq_true rfl, Nat.le_of_ble_eq_true rfl⟩) (i := 0) (by omega) h0 rfl rfl hl.1 rfl (Nat.le_of_ble_eq_true rfl) dX3_prints_31 ⟨Nat.le_of_ble_eq_true rfl, Nat.le_of_ble_eq_true rfl⟩ (m_deti (fun H locs hI => ?_))
    refine m_callSi (As := [.int (nI (T j)), .int (bI (fa uns T j))]) (rest := []) ⟨hx, hb, hml, hown, hts⟩ hE hI (c_X3_characterOf k l ad N g _ (T j) (fa uns T j) (hT _)) (va_cwS 2 hts gX3_prints_X3_characterOf rfl rfl rfl (by decide +kernel) ⟨Nat.le_of_ble_eq_true rfl, Nat.le_of_ble_eq_true rfl⟩) rfl hl.1 rfl (Nat.le_of_ble_eq_true rfl) dX3_prints_34 ⟨Nat.le_of_ble_eq_true rfl, Nat.le_of_ble_eq_true rfl⟩ (m_deti (fun H locs hI => ?_))
    refine vx_ret ?_
    refine W.widen (k := 1) (n := 6) (by omega) (by omega) ?_
    exact m_iret hx hb hr hlocks hI (⟨c_8, by rw [htnj], rfl⟩) dX3_prints_37
  · exact m_throwS hx hb hst hown (cls := "java/lang/IndexOutOfBoundsException") (ik := 36) (is := 125) (ic := 40) x_fit36 (hts (.classLink RX3 36 "java/lang/IndexOutOfBoundsException") (by decide +kernel)) (hts (.initialized "java/lang/IndexOutOfBoundsException") (by decide +kernel)) (x_hat36 hE.1.2.2.2.2.2 (fun w h => hts w (List.mem_cons_of_mem _ (List.mem_append_right _ h)))) x_good36 (text := "no such place of the tape") (by decide) hE hI (by rw [hml]; exact hl.1) dX3_prints_11 dX3_prints_14 dX3_prints_15 dX3_prints_17 dX3_prints_20 htab hlocks (by decide) (Nat.le_of_ble_eq_true rfl) (⟨rfl, c_8⟩)
set_option maxHeartbeats 8000000 in
set_option maxRecDepth 100000 in
theorem c_X3_wind (k : mC) (l : Launch) (hst : l.stackTraces = false) (ad : Nat → Nat) (N : Nat) (g : Nat → va_E) (sz : Nat) (uns : Bool) (play rd n : Nat) (lat : Nat → Int32) (gar T : Nat → Nat) (came : Nat) (mis lost bel : Int32) (fig : Bool) (fi u : Nat) (z : Nat → Nat) (F : Nat → Nat → Nat) (r : Nat → Option Nat) (p0 : Int32) (hN : 50 ≤ N) (hW : CW play rd n lat gar T) (hwf : cWf (fi, u, z, F)) (hcame : came < 2000000000) (hC : CR k ad g uns play rd n lat gar T (came, mis, lost, bel, fig, fi, u, z, F) r)  : mXi k l yX3_wind wsX3_wind { frames := 6, cells := 1, slots := 6, locals := 82 } ad N g sz [.ref (ad 0), .int p0] (fun r1 g1 => inN p0 (n + 1) = true ∧ r1 = nI rd ∧ CR k ad g1 uns play (tn p0) n lat gar T (came, mis, lost, bel, fig, fi, u, z, F) r ∧ ∀ i, 50 ≤ i → g1 i = g i) (fun E => E = "java/lang/IndexOutOfBoundsException" ∧ inN p0 (n + 1) = false) := by
  refine mOfX (cc := cX3_wind) (maxL := 3) (ret := (some .int)) (by decide) rfl (Nat.le_of_ble_eq_true rfl) ?_
  intro p e s m below meth c hx hb hr hts hown hlocks hml htab hE hI ls hl
  have hl : lv_has ls 3 [(0, .ref (ad 0)), (1, .int p0)] := hl
  have h0 : g 0 = .inr (3, [.ref (ad 1), .ref (ad 6), .ref (ad 48), .int (nI rd), .int (bI fig), .int (bI uns), .int (nI came), .int mis, .int lost, .int bel]) := hC.1
  have hWi : CWi k ad g play lat gar := hC.2.1
  have hSh : CSh k ad g fi u z F r := hC.2.2.1
  have h48 : g 48 = .inr (0, [.ref (ad 49), .int (nI n)]) := hC.2.2.2.1
  have h49 : g 49 = .inl (k.2.1.1, 120, .inl (fun j => nI (T j))) := hC.2.2.2.2
  have hr48 : CRow k ad g 48 120 n (fun j => nI (T j)) := ⟨h48, h49⟩
  have h1 := hWi.1
  have h6 : g 6 = .inr (1, [.ref (ad 7), .int (nI fi), .int (nI u)]) := hSh.1
  obtain ⟨hplay, hrd, hn, hgar, hT, hlat⟩ := id hW
  have hfi : fi < 20 := hwf.1
  have hu0 : 0 < u := hwf.2.1
  have hu : u ≤ 20 := hwf.2.2
  refine lv_iload_n hx hb dX3_wind_0 rfl (lv_at hl 1 rfl) ?_
  refine lv_if_lt (tgt := 15) hx hb dX3_wind_1 (by decide) (fun c_1 => ?_) (fun c_1 => ?_)
  · exact m_throwS hx hb hst hown (cls := "java/lang/IndexOutOfBoundsException") (ik := 36) (is := 125) (ic := 40) x_fit36 (hts (.classLink RX3 36 "java/lang/IndexOutOfBoundsException") (by decide +kernel)) (hts (.initialized "java/lang/IndexOutOfBoundsException") (by decide +kernel)) (x_hat36 hE.1.2.2.2.2.2 (fun w h => hts w (List.mem_cons_of_mem _ (List.mem_append_right _ h)))) x_good36 (text := "no such place of the tape") (by decide) hE hI (by rw [hml]; exact hl.1) dX3_wind_15 dX3_wind_18 dX3_wind_19 dX3_wind_21 dX3_wind_24 htab hlocks (by decide) (Nat.le_of_ble_eq_true rfl) (⟨rfl, inN_neg c_1⟩)
  · refine lv_iload_n hx hb dX3_wind_4 rfl (lv_at hl 1 rfl) ?_
    refine lv_aload_n hx hb dX3_wind_5 rfl (lv_at hl 0 rfl) ?_
    refine m_get (ci := 3) (C := RX3) (T := TX3) (N' := 10) hx hb hts (by decide +kernel) hown hE hI 0 (by omega) h0 rfl 2 (by decide) (hts (.fieldLink RX3 28 "TapePrinter" "strip" "LTapePrinter$Row;") (by decide +kernel)) rfl dX3_wind_6 ?_
    refine m_callVi (As := []) (rest := [.int p0]) ⟨hx, hb, hml, hown, hts⟩ hE hI (c_X0_size k l ad N g _ 48 120 n (fun j => nI (T j))  (by omega) (by omega) (by omega) ⟨h48, h49⟩) (cwV 0 hts gX3_wind_X0_size rfl rfl rfl (by decide +kernel) ⟨Nat.le_of_ble_eq_true rfl, Nat.le_of_ble_eq_true rfl⟩) (i := 48) (by omega) h48 rfl rfl hl.1 rfl (Nat.le_of_ble_eq_true rfl) dX3_wind_9 ⟨Nat.le_of_ble_eq_true rfl, Nat.le_of_ble_eq_true rfl⟩ (m_deti (fun H locs hI => ?_))
    refine lv_icmp_le (tgt := 25) hx hb dX3_wind_12 (by decide) (fun c_12 => ?_) (fun c_12 => ?_)
    · have hin0 : inN p0 (n + 1) = true := inN_le c_1 c_12 (by omega)
      obtain ⟨j, hj, rfl⟩ := inN_ex hin0 (by omega)
      have htnj := tn_nI (j := j) (by omega)
      have hl : lv_has ls 3 [(0, .ref (ad 0)), (1, .int (nI j))] := hl
      refine lv_aload_n hx hb dX3_wind_25 rfl (lv_at hl 0 rfl) ?_
      refine m_get (ci := 3) (C := RX3) (T := TX3) (N' := 10) hx hb hts (by decide +kernel) hown hE hI 0 (by omega) h0 rfl 3 (by decide) (hts (.fieldLink RX3 135 "TapePrinter" "reader" "I") (by decide +kernel)) rfl dX3_wind_26 ?_
      refine lv_istore_n (lv' := [(2, .int (nI rd)), (0, .ref (ad 0)), (1, .int (nI j))]) hx hb dX3_wind_29 rfl hl (by decide) rfl (fun ls hl => ?_)
      refine lv_aload_n hx hb dX3_wind_30 rfl (lv_at hl 1 rfl) ?_
      refine lv_iload_n hx hb dX3_wind_31 rfl (lv_at hl 2 rfl) ?_
      refine m_put (ci := 3) (C := RX3) (T := TX3) (N' := 10) (ty := .int) hx hb hts (by decide +kernel) tyX3 tyX3_ok nmX3 hown hE hI 0 (by omega) h0 rfl 3 (by decide) (hts (.fieldLink RX3 135 "TapePrinter" "reader" "I") (by decide +kernel)) rfl (by decide +kernel) rfl rfl (Nat.le_of_ble_eq_true rfl) dX3_wind_32 (fun H locs hI => ?_)
      obtain ⟨g1, hg1⟩ : ∃ zz, zz = va_up g 0 (.inr (3, [.ref (ad 1), .ref (ad 6), .ref (ad 48), .int (nI j), .int (bI fig), .int (bI uns), .int (nI came), .int mis, .int lost, .int bel])) := ⟨_, rfl⟩
      replace hI : mI k ad N g1 (mA ad N s.heap.size) s H locs := by rw [hg1]; exact hI
      have m_1 : g1 0 = .inr (3, [.ref (ad 1), .ref (ad 6), .ref (ad 48), .int (nI j), .int (bI fig), .int (bI uns), .int (nI came), .int mis, .int lost, .int bel]) := by rw [hg1, va_up_self]
      have m_2 : g1 1 = .inr (2, [.ref (ad 2), .ref (ad 4), .int (nI play)]) := by rw [hg1, va_up_ne _ _ (by omega)]; exact h1
      have m_3 : g1 48 = .inr (0, [.ref (ad 49), .int (nI n)]) := by rw [hg1, va_up_ne _ _ (by omega)]; exact h48
      have m_4 : g1 49 = .inl (k.2.1.1, 120, .inl (fun j => nI (T j))) := by rw [hg1, va_up_ne _ _ (by omega)]; exact h49
      have m_5 : g1 6 = .inr (1, [.ref (ad 7), .int (nI fi), .int (nI u)]) := by rw [hg1, va_up_ne _ _ (by omega)]; exact h6
      refine lv_iload_n hx hb dX3_wind_35 rfl (lv_at hl 0 rfl) ?_
      have hk9 : ∀ i, i ≠ 0 → g1 i = g i := fun i h3 => by rw [hg1, va_up_ne _ _ h3]
      refine vx_ret ?_
      refine W.widen (k := 1) (n := 6) (by omega) (by omega) ?_
      exact m_iret hx hb hr hlocks hI (⟨hin0, rfl, by rw [htnj]; exact ⟨m_1, hWi.kept (fun i h1 h2 => hk9 i (by omega)), hSh.kept (fun i h1 h2 => hk9 i (by omega)), ⟨(hk9 48 (by omega)).trans h48, (hk9 49 (by omega)).trans h49⟩⟩, fun i hi => hk9 i (by omega)⟩) dX3_wind_36
    · exact m_throwS hx hb hst hown (cls := "java/lang/IndexOutOfBoundsException") (ik := 36) (is := 125) (ic := 40) x_fit36 (hts (.classLink RX3 36 "java/lang/IndexOutOfBoundsException") (by decide +kernel)) (hts (.initialized "java/lang/IndexOutOfBoundsException") (by decide +kernel)) (x_hat36 hE.1.2.2.2.2.2 (fun w h => hts w (List.mem_cons_of_mem _ (List.mem_append_right _ h)))) x_good36 (text := "no such place of the tape") (by decide) hE hI (by rw [hml]; exact hl.1) dX3_wind_15 dX3_wind_18 dX3_wind_19 dX3_wind_21 dX3_wind_24 htab hlocks (by decide) (Nat.le_of_ble_eq_true rfl) (⟨rfl, inN_nle c_12 (by omega)⟩)
set_option maxHeartbeats 8000000 in
set_option maxRecDepth 100000 in
theorem c_X3_would (k : mC) (l : Launch) (hst : l.stackTraces = false) (ad : Nat → Nat) (N : Nat) (g : Nat → va_E) (sz : Nat) (uns : Bool) (play rd n : Nat) (lat : Nat → Int32) (gar T : Nat → Nat) (came : Nat) (mis lost bel : Int32) (fig : Bool) (fi u : Nat) (z : Nat → Nat) (F : Nat → Nat → Nat) (r : Nat → Option Nat) (p0 : Int32) (hN : 50 ≤ N) (hW : CW play rd n lat gar T) (hwf : cWf (fi, u, z, F)) (hcame : came < 2000000000) (hC : CR k ad g uns play rd n lat gar T (came, mis, lost, bel, fig, fi, u, z, F) r)  : mXi k l yX3_would wsX3_would { frames := 6, cells := 1, slots := 6, locals := 82 } ad N g sz [.ref (ad 0), .int p0] (fun r1 g1 => inN p0 32 = true ∧ r1 = nI (rdY play lat gar came (tn p0)) ∧ g1 = g) (fun E => E = "java/lang/IndexOutOfBoundsException" ∧ inN p0 32 = false) := by
  refine mOfX (cc := cX3_would) (maxL := 2) (ret := (some .int)) (by decide) rfl (Nat.le_of_ble_eq_true rfl) ?_
  intro p e s m below meth c hx hb hr hts hown hlocks hml htab hE hI ls hl
  have hl : lv_has ls 2 [(0, .ref (ad 0)), (1, .int p0)] := hl
  have h0 : g 0 = .inr (3, [.ref (ad 1), .ref (ad 6), .ref (ad 48), .int (nI rd), .int (bI fig), .int (bI uns), .int (nI came), .int mis, .int lost, .int bel]) := hC.1
  have hWi : CWi k ad g play lat gar := hC.2.1
  have hSh : CSh k ad g fi u z F r := hC.2.2.1
  have h48 : g 48 = .inr (0, [.ref (ad 49), .int (nI n)]) := hC.2.2.2.1
  have h49 : g 49 = .inl (k.2.1.1, 120, .inl (fun j => nI (T j))) := hC.2.2.2.2
  have hr48 : CRow k ad g 48 120 n (fun j => nI (T j)) := ⟨h48, h49⟩
  have h1 := hWi.1
  have h6 : g 6 = .inr (1, [.ref (ad 7), .int (nI fi), .int (nI u)]) := hSh.1
  obtain ⟨hplay, hrd, hn, hgar, hT, hlat⟩ := id hW
  have hfi : fi < 20 := hwf.1
  have hu0 : 0 < u := hwf.2.1
  have hu : u ≤ 20 := hwf.2.2
  refine lv_iload_n hx hb dX3_would_0 rfl (lv_at hl 1 rfl) ?_
  refine m_callSi (As := [.int p0]) (rest := []) ⟨hx, hb, hml, hown, hts⟩ hE hI (c_X3_isCode k l ad N g _ p0 ) (va_cwS 1 hts gX3_would_X3_isCode rfl rfl rfl (by decide +kernel) ⟨Nat.le_of_ble_eq_true rfl, Nat.le_of_ble_eq_true rfl⟩) rfl hl.1 rfl (Nat.le_of_ble_eq_true rfl) dX3_would_1 ⟨Nat.le_of_ble_eq_true rfl, Nat.le_of_ble_eq_true rfl⟩ (m_deti (fun H locs hI => ?_))
  refine m_zneB (tgt := 17) hx hb dX3_would_4 (by decide) (fun c_4 => ?_) (fun c_4 => ?_)
  · obtain ⟨j, hj, rfl⟩ := inN_ex c_4 (by omega)
    have htnj := tn_nI (j := j) (by omega)
    have hl : lv_has ls 2 [(0, .ref (ad 0)), (1, .int (nI j))] := hl
    refine lv_aload_n hx hb dX3_would_17 rfl (lv_at hl 0 rfl) ?_
    refine m_get (ci := 3) (C := RX3) (T := TX3) (N' := 10) hx hb hts (by decide +kernel) hown hE hI 0 (by omega) h0 rfl 0 (by decide) (hts (.fieldLink RX3 10 "TapePrinter" "wire" "LTapePrinter$Wire;") (by decide +kernel)) rfl dX3_would_18 ?_
    refine lv_iload_n hx hb dX3_would_21 rfl (lv_at hl 1 rfl) ?_
    refine lv_aload_n hx hb dX3_would_22 rfl (lv_at hl 0 rfl) ?_
    refine m_get (ci := 3) (C := RX3) (T := TX3) (N' := 10) hx hb hts (by decide +kernel) hown hE hI 0 (by omega) h0 rfl 6 (by decide) (hts (.fieldLink RX3 158 "TapePrinter" "came" "I") (by decide +kernel)) rfl dX3_would_23 ?_
    refine m_callVi (As := [.int (nI j), .int (nI came)]) (rest := []) ⟨hx, hb, hml, hown, hts⟩ hE hI (c_X2_readAs k l ad N g _ play lat gar j came (by omega) hWi (by omega) (by omega) hgar) (cwV 2 hts gX3_would_X2_readAs rfl rfl rfl (by decide +kernel) ⟨Nat.le_of_ble_eq_true rfl, Nat.le_of_ble_eq_true rfl⟩) (i := 1) (by omega) h1 rfl rfl hl.1 rfl (Nat.le_of_ble_eq_true rfl) dX3_would_26 ⟨Nat.le_of_ble_eq_true rfl, Nat.le_of_ble_eq_true rfl⟩ (m_deti (fun H locs hI => ?_))
    refine vx_ret ?_
    refine W.widen (k := 1) (n := 6) (by omega) (by omega) ?_
    exact m_iret hx hb hr hlocks hI (⟨c_4, by rw [htnj] <;> rfl, rfl⟩) dX3_would_29
  · exact m_throwS hx hb hst hown (cls := "java/lang/IndexOutOfBoundsException") (ik := 36) (is := 50) (ic := 40) x_fit36 (hts (.classLink RX3 36 "java/lang/IndexOutOfBoundsException") (by decide +kernel)) (hts (.initialized "java/lang/IndexOutOfBoundsException") (by decide +kernel)) (x_hat36 hE.1.2.2.2.2.2 (fun w h => hts w (List.mem_cons_of_mem _ (List.mem_append_right _ h)))) x_good36 (text := "no such code") (by decide) hE hI (by rw [hml]; exact hl.1) dX3_would_7 dX3_would_10 dX3_would_11 dX3_would_13 dX3_would_16 htab hlocks (by decide) (Nat.le_of_ble_eq_true rfl) (⟨rfl, c_4⟩)
theorem inN_out {x : Int32} {n : Nat} (h : inN x n = false) : x < 0 ∨ nI n ≤ x := by
  simp only [inN, Bool.and_eq_false_iff, decide_eq_false_iff_not] at h
  rcases h with h | h
  · left; rw [Int32.le_iff_toInt_le] at h; rw [Int32.lt_iff_toInt_lt]; omega
  · right; rw [Int32.lt_iff_toInt_lt] at h; rw [Int32.le_iff_toInt_le]; omega
set_option maxHeartbeats 8000000 in
set_option maxRecDepth 100000 in
theorem c_X3_page (k : mC) (l : Launch) (hst : l.stackTraces = false) (ad : Nat → Nat) (N : Nat) (g : Nat → va_E) (sz : Nat) (uns : Bool) (play rd n : Nat) (lat : Nat → Int32) (gar T : Nat → Nat) (came : Nat) (mis lost bel : Int32) (fig : Bool) (fi u : Nat) (z : Nat → Nat) (F : Nat → Nat → Nat) (r : Nat → Option Nat) (p0 p1 : Int32) (hN : 50 ≤ N) (hW : CW play rd n lat gar T) (hwf : cWf (fi, u, z, F)) (hcame : came < 2000000000) (hC : CR k ad g uns play rd n lat gar T (came, mis, lost, bel, fig, fi, u, z, F) r)  : mXi k l yX3_page wsX3_page { frames := 6, cells := 1, slots := 6, locals := 82 } ad N g sz [.ref (ad 0), .int p0, .int p1] (fun r1 g1 => (inN p0 u && inN p1 (z (slt fi (tn p0)))) = true ∧ r1 = nI (F (slt fi (tn p0)) (tn p1)) ∧ g1 = g) (fun E => E = "java/lang/IndexOutOfBoundsException" ∧ (inN p0 u && inN p1 (z (slt fi (tn p0)))) = false) := by
  refine mOfX (cc := cX3_page) (maxL := 4) (ret := (some .int)) (by decide) rfl (Nat.le_of_ble_eq_true rfl) ?_
  intro p e s m below meth c hx hb hr hts hown hlocks hml htab hE hI ls hl
  have hl : lv_has ls 4 [(0, .ref (ad 0)), (1, .int p0), (2, .int p1)] := hl
  have h0 : g 0 = .inr (3, [.ref (ad 1), .ref (ad 6), .ref (ad 48), .int (nI rd), .int (bI fig), .int (bI uns), .int (nI came), .int mis, .int lost, .int bel]) := hC.1
  have hWi : CWi k ad g play lat gar := hC.2.1
  have hSh : CSh k ad g fi u z F r := hC.2.2.1
  have h48 : g 48 = .inr (0, [.ref (ad 49), .int (nI n)]) := hC.2.2.2.1
  have h49 : g 49 = .inl (k.2.1.1, 120, .inl (fun j => nI (T j))) := hC.2.2.2.2
  have hr48 : CRow k ad g 48 120 n (fun j => nI (T j)) := ⟨h48, h49⟩
  have h1 := hWi.1
  have h6 : g 6 = .inr (1, [.ref (ad 7), .int (nI fi), .int (nI u)]) := hSh.1
  obtain ⟨hplay, hrd, hn, hgar, hT, hlat⟩ := id hW
  have hfi : fi < 20 := hwf.1
  have hu0 : 0 < u := hwf.2.1
  have hu : u ≤ 20 := hwf.2.2
  refine lv_aload_n hx hb dX3_page_0 rfl (lv_at hl 0 rfl) ?_
  refine m_get (ci := 3) (C := RX3) (T := TX3) (N' := 10) hx hb hts (by decide +kernel) hown hE hI 0 (by omega) h0 rfl 1 (by decide) (hts (.fieldLink RX3 19 "TapePrinter" "sheet" "LTapePrinter$Sheet;") (by decide +kernel)) rfl dX3_page_1 ?_
  refine lv_iload_n hx hb dX3_page_4 rfl (lv_at hl 1 rfl) ?_
  by_cases hq9 : inN p0 u = true
  · obtain ⟨j, hj, rfl⟩ := inN_ex hq9 (by omega)
    have htnj := tn_nI (j := j) (by omega)
    have hl : lv_has ls 4 [(0, .ref (ad 0)), (1, .int (nI j)), (2, .int p1)] := hl
    have hsl := slt_lt fi j
    have hqr := hSh.2.2.2 (slt fi j) hsl
    have hqa := hqr.1.1
    have hqb := hqr.1.2
    have hqc := hqr.2
    refine m_callVq (As := [.int (nI j)]) (rest := []) ⟨hx, hb, hml, hown, hts⟩ hE hI (c_X1_row_in k l ad N g _ fi u z F r j (by omega) (by omega) (by omega) (by omega) hSh (by omega)) (cwV 1 hts gX3_page_X1_row rfl rfl rfl (by decide +kernel) ⟨Nat.le_of_ble_eq_true rfl, Nat.le_of_ble_eq_true rfl⟩) (i := 6) (by omega) h6 rfl rfl hl.1 rfl (Nat.le_of_ble_eq_true rfl) dX3_page_5 ⟨Nat.le_of_ble_eq_true rfl, Nat.le_of_ble_eq_true rfl⟩ (m_detq (fun H locs hI => ?_))
    refine m_rf rfl ?_
    refine lv_astore_n (lv' := [(3, .ref (ad (8 + 2 * slt fi j))), (0, .ref (ad 0)), (1, .int (nI j)), (2, .int p1)]) hx hb dX3_page_8 rfl hl (by decide) rfl (fun ls hl => ?_)
    refine lv_aload_n hx hb dX3_page_9 rfl (lv_at hl 0 rfl) ?_
    refine lv_ifnull hx hb dX3_page_10 ?_
    refine lv_aload_n hx hb dX3_page_13 rfl (lv_at hl 0 rfl) ?_
    refine lv_iload_n hx hb dX3_page_14 rfl (lv_at hl 3 rfl) ?_
    refine m_callVi (As := [.int p1]) (rest := []) ⟨hx, hb, hml, hown, hts⟩ hE hI (c_X0_has k l ad N g _ (8 + 2 * slt fi j) 40 (z (slt fi j)) (fun ii => nI (F (slt fi j) ii)) p1 (by omega) (by omega) (by omega) ⟨hqa, hqb⟩) (cwV 1 hts gX3_page_X0_has rfl rfl rfl (by decide +kernel) ⟨Nat.le_of_ble_eq_true rfl, Nat.le_of_ble_eq_true rfl⟩) (i := (8 + 2 * slt fi j)) (by omega) hqa rfl rfl hl.1 rfl (Nat.le_of_ble_eq_true rfl) dX3_page_15 ⟨Nat.le_of_ble_eq_true rfl, Nat.le_of_ble_eq_true rfl⟩ (m_deti (fun H locs hI => ?_))
    refine m_zneB (tgt := 31) hx hb dX3_page_18 (by decide) (fun c_18 => ?_) (fun c_18 => ?_)
    · obtain ⟨i, hi, rfl⟩ := inN_ex c_18 (by omega)
      have htni := tn_nI (j := i) (by omega)
      have hl : lv_has ls 4 [(3, .ref (ad (8 + 2 * slt fi j))), (0, .ref (ad 0)), (1, .int (nI j)), (2, .int (nI i))] := hl
      refine lv_aload_n hx hb dX3_page_31 rfl (lv_at hl 0 rfl) ?_
      refine lv_iload_n hx hb dX3_page_32 rfl (lv_at hl 3 rfl) ?_
      refine m_callVi (As := [.int (nI i)]) (rest := []) ⟨hx, hb, hml, hown, hts⟩ hE hI (c_X0_at k l ad N g _ (8 + 2 * slt fi j) 40 (z (slt fi j)) (fun ii => nI (F (slt fi j) ii)) i (by omega) (by omega) (by omega) ⟨hqa, hqb⟩ (by omega)) (cwV 1 hts gX3_page_X0_at rfl rfl rfl (by decide +kernel) ⟨Nat.le_of_ble_eq_true rfl, Nat.le_of_ble_eq_true rfl⟩) (i := (8 + 2 * slt fi j)) (by omega) hqa rfl rfl hl.1 rfl (Nat.le_of_ble_eq_true rfl) dX3_page_33 ⟨Nat.le_of_ble_eq_true rfl, Nat.le_of_ble_eq_true rfl⟩ (m_deti (fun H locs hI => ?_))
      refine m_top (show (fun ii => nI (F (slt fi j) ii)) i = nI (F (slt fi j) i) from rfl) ?_
      refine vx_ret ?_
      refine W.widen (k := 1) (n := 6) (by omega) (by omega) ?_
      exact m_iret hx hb hr hlocks hI (⟨by rw [hq9, htnj, c_18] <;> rfl, by rw [htnj, htni], rfl⟩) dX3_page_36
    · exact m_throwS hx hb hst hown (cls := "java/lang/IndexOutOfBoundsException") (ik := 36) (is := 149) (ic := 40) x_fit36 (hts (.classLink RX3 36 "java/lang/IndexOutOfBoundsException") (by decide +kernel)) (hts (.initialized "java/lang/IndexOutOfBoundsException") (by decide +kernel)) (x_hat36 hE.1.2.2.2.2.2 (fun w h => hts w (List.mem_cons_of_mem _ (List.mem_append_right _ h)))) x_good36 (text := "no such line or place") (by decide) hE hI (by rw [hml]; exact hl.1) dX3_page_21 dX3_page_24 dX3_page_25 dX3_page_27 dX3_page_30 htab hlocks (by decide) (Nat.le_of_ble_eq_true rfl) (⟨rfl, by rw [hq9, htnj, c_18] <;> rfl⟩)
  · have hq8 : inN p0 u = false := by cases hh : inN p0 u <;> first | rfl | exact absurd hh hq9
    have hout : p0 < 0 ∨ nI u ≤ p0 := inN_out hq8
    refine m_callVq (As := [.int p0]) (rest := []) ⟨hx, hb, hml, hown, hts⟩ hE hI (c_X1_row_out k l ad N g _ fi u z F r p0 (by omega) (by omega) (by omega) (by omega) hSh hout) (cwV 1 hts gX3_page_X1_row rfl rfl rfl (by decide +kernel) ⟨Nat.le_of_ble_eq_true rfl, Nat.le_of_ble_eq_true rfl⟩) (i := 6) (by omega) h6 rfl rfl hl.1 rfl (Nat.le_of_ble_eq_true rfl) dX3_page_5 ⟨Nat.le_of_ble_eq_true rfl, Nat.le_of_ble_eq_true rfl⟩ (m_detq (fun H locs hI => ?_))
    refine m_rfN rfl ?_
    refine lv_astore_nN (lv' := [(3, .null), (0, .ref (ad 0)), (1, .int p0), (2, .int p1)]) hx hb dX3_page_8 rfl hl (by decide) rfl (fun ls hl => ?_)
    refine lv_aload_nN hx hb dX3_page_9 rfl (lv_at hl 0 rfl) ?_
    refine lv_ifnullN (tgt := 21) hx hb dX3_page_10 (by decide) ?_
    exact m_throwS hx hb hst hown (cls := "java/lang/IndexOutOfBoundsException") (ik := 36) (is := 149) (ic := 40) x_fit36 (hts (.classLink RX3 36 "java/lang/IndexOutOfBoundsException") (by decide +kernel)) (hts (.initialized "java/lang/IndexOutOfBoundsException") (by decide +kernel)) (x_hat36 hE.1.2.2.2.2.2 (fun w h => hts w (List.mem_cons_of_mem _ (List.mem_append_right _ h)))) x_good36 (text := "no such line or place") (by decide) hE hI (by rw [hml]; exact hl.1) dX3_page_21 dX3_page_24 dX3_page_25 dX3_page_27 dX3_page_30 htab hlocks (by decide) (Nat.le_of_ble_eq_true rfl) (⟨rfl, by rw [hq8] <;> rfl⟩)
set_option maxHeartbeats 8000000 in
set_option maxRecDepth 100000 in
theorem c_X3_length (k : mC) (l : Launch) (hst : l.stackTraces = false) (ad : Nat → Nat) (N : Nat) (g : Nat → va_E) (sz : Nat) (uns : Bool) (play rd n : Nat) (lat : Nat → Int32) (gar T : Nat → Nat) (came : Nat) (mis lost bel : Int32) (fig : Bool) (fi u : Nat) (z : Nat → Nat) (F : Nat → Nat → Nat) (r : Nat → Option Nat) (p0 : Int32) (hN : 50 ≤ N) (hW : CW play rd n lat gar T) (hwf : cWf (fi, u, z, F)) (hcame : came < 2000000000) (hC : CR k ad g uns play rd n lat gar T (came, mis, lost, bel, fig, fi, u, z, F) r)  : mXi k l yX3_length wsX3_length { frames := 6, cells := 1, slots := 6, locals := 82 } ad N g sz [.ref (ad 0), .int p0] (fun r1 g1 => inN p0 u = true ∧ r1 = nI (z (slt fi (tn p0))) ∧ g1 = g) (fun E => E = "java/lang/IndexOutOfBoundsException" ∧ inN p0 u = false) := by
  refine mOfX (cc := cX3_length) (maxL := 3) (ret := (some .int)) (by decide) rfl (Nat.le_of_ble_eq_true rfl) ?_
  intro p e s m below meth c hx hb hr hts hown hlocks hml htab hE hI ls hl
  have hl : lv_has ls 3 [(0, .ref (ad 0)), (1, .int p0)] := hl
  have h0 : g 0 = .inr (3, [.ref (ad 1), .ref (ad 6), .ref (ad 48), .int (nI rd), .int (bI fig), .int (bI uns), .int (nI came), .int mis, .int lost, .int bel]) := hC.1
  have hWi : CWi k ad g play lat gar := hC.2.1
  have hSh : CSh k ad g fi u z F r := hC.2.2.1
  have h48 : g 48 = .inr (0, [.ref (ad 49), .int (nI n)]) := hC.2.2.2.1
  have h49 : g 49 = .inl (k.2.1.1, 120, .inl (fun j => nI (T j))) := hC.2.2.2.2
  have hr48 : CRow k ad g 48 120 n (fun j => nI (T j)) := ⟨h48, h49⟩
  have h1 := hWi.1
  have h6 : g 6 = .inr (1, [.ref (ad 7), .int (nI fi), .int (nI u)]) := hSh.1
  obtain ⟨hplay, hrd, hn, hgar, hT, hlat⟩ := id hW
  have hfi : fi < 20 := hwf.1
  have hu0 : 0 < u := hwf.2.1
  have hu : u ≤ 20 := hwf.2.2
  refine lv_aload_n hx hb dX3_length_0 rfl (lv_at hl 0 rfl) ?_
  refine m_get (ci := 3) (C := RX3) (T := TX3) (N' := 10) hx hb hts (by decide +kernel) hown hE hI 0 (by omega) h0 rfl 1 (by decide) (hts (.fieldLink RX3 19 "TapePrinter" "sheet" "LTapePrinter$Sheet;") (by decide +kernel)) rfl dX3_length_1 ?_
  refine lv_iload_n hx hb dX3_length_4 rfl (lv_at hl 1 rfl) ?_
  by_cases hq9 : inN p0 u = true
  · obtain ⟨j, hj, rfl⟩ := inN_ex hq9 (by omega)
    have htnj := tn_nI (j := j) (by omega)
    have hl : lv_has ls 3 [(0, .ref (ad 0)), (1, .int (nI j))] := hl
    have hsl := slt_lt fi j
    have hqr := hSh.2.2.2 (slt fi j) hsl
    have hqa := hqr.1.1
    have hqb := hqr.1.2
    have hqc := hqr.2
    refine m_callVq (As := [.int (nI j)]) (rest := []) ⟨hx, hb, hml, hown, hts⟩ hE hI (c_X1_row_in k l ad N g _ fi u z F r j (by omega) (by omega) (by omega) (by omega) hSh (by omega)) (cwV 1 hts gX3_length_X1_row rfl rfl rfl (by decide +kernel) ⟨Nat.le_of_ble_eq_true rfl, Nat.le_of_ble_eq_true rfl⟩) (i := 6) (by omega) h6 rfl rfl hl.1 rfl (Nat.le_of_ble_eq_true rfl) dX3_length_5 ⟨Nat.le_of_ble_eq_true rfl, Nat.le_of_ble_eq_true rfl⟩ (m_detq (fun H locs hI => ?_))
    refine m_rf rfl ?_
    refine lv_astore_n (lv' := [(2, .ref (ad (8 + 2 * slt fi j))), (0, .ref (ad 0)), (1, .int (nI j))]) hx hb dX3_length_8 rfl hl (by decide) rfl (fun ls hl => ?_)
    refine lv_aload_n hx hb dX3_length_9 rfl (lv_at hl 0 rfl) ?_
    refine lv_ifnonnull (tgt := 23) hx hb dX3_length_10 (by decide) ?_
    refine lv_aload_n hx hb dX3_length_23 rfl (lv_at hl 0 rfl) ?_
    refine m_callVi (As := []) (rest := []) ⟨hx, hb, hml, hown, hts⟩ hE hI (c_X0_size k l ad N g _ (8 + 2 * slt fi j) 40 (z (slt fi j)) (fun ii => nI (F (slt fi j) ii))  (by omega) (by omega) (by omega) ⟨hqa, hqb⟩) (cwV 0 hts gX3_length_X0_size rfl rfl rfl (by decide +kernel) ⟨Nat.le_of_ble_eq_true rfl, Nat.le_of_ble_eq_true rfl⟩) (i := (8 + 2 * slt fi j)) (by omega) hqa rfl rfl hl.1 rfl (Nat.le_of_ble_eq_true rfl) dX3_length_24 ⟨Nat.le_of_ble_eq_true rfl, Nat.le_of_ble_eq_true rfl⟩ (m_deti (fun H locs hI => ?_))
    refine vx_ret ?_
    refine W.widen (k := 1) (n := 6) (by omega) (by omega) ?_
    exact m_iret hx hb hr hlocks hI (⟨hq9, by rw [htnj], rfl⟩) dX3_length_27
  · have hq8 : inN p0 u = false := by cases hh : inN p0 u <;> first | rfl | exact absurd hh hq9
    have hout : p0 < 0 ∨ nI u ≤ p0 := inN_out hq8
    refine m_callVq (As := [.int p0]) (rest := []) ⟨hx, hb, hml, hown, hts⟩ hE hI (c_X1_row_out k l ad N g _ fi u z F r p0 (by omega) (by omega) (by omega) (by omega) hSh hout) (cwV 1 hts gX3_length_X1_row rfl rfl rfl (by decide +kernel) ⟨Nat.le_of_ble_eq_true rfl, Nat.le_of_ble_eq_true rfl⟩) (i := 6) (by omega) h6 rfl rfl hl.1 rfl (Nat.le_of_ble_eq_true rfl) dX3_length_5 ⟨Nat.le_of_ble_eq_true rfl, Nat.le_of_ble_eq_true rfl⟩ (m_detq (fun H locs hI => ?_))
    refine m_rfN rfl ?_
    refine lv_astore_nN (lv' := [(2, .null), (0, .ref (ad 0)), (1, .int p0)]) hx hb dX3_length_8 rfl hl (by decide) rfl (fun ls hl => ?_)
    refine lv_aload_nN hx hb dX3_length_9 rfl (lv_at hl 0 rfl) ?_
    refine lv_ifnonnullN hx hb dX3_length_10 ?_
    exact m_throwS hx hb hst hown (cls := "java/lang/IndexOutOfBoundsException") (ik := 36) (is := 151) (ic := 40) x_fit36 (hts (.classLink RX3 36 "java/lang/IndexOutOfBoundsException") (by decide +kernel)) (hts (.initialized "java/lang/IndexOutOfBoundsException") (by decide +kernel)) (x_hat36 hE.1.2.2.2.2.2 (fun w h => hts w (List.mem_cons_of_mem _ (List.mem_append_right _ h)))) x_good36 (text := "no such line") (by decide) hE hI (by rw [hml]; exact hl.1) dX3_length_13 dX3_length_16 dX3_length_17 dX3_length_19 dX3_length_22 htab hlocks (by decide) (Nat.le_of_ble_eq_true rfl) (⟨rfl, hq8⟩)
end
section
/-- what count tells -/
def cntV (u chars : Nat) (fig : Bool) (play n rd came : Nat) (mis lost : Int32) (uns : Bool) (bel : Int32) (q : Nat) : Int32 :=
  if q = 0 then nI u else if q = 1 then nI chars else if q = 2 then bI fig else if q = 3 then nI play else if q = 4 then nI n else if q = 5 then nI rd else if q = 6 then nI came else if q = 7 then mis else if q = 8 then lost else if q = 9 then bI uns else bel
set_option maxHeartbeats 8000000 in
set_option maxRecDepth 100000 in
theorem c_X3_counted (k : mC) (l : Launch) (ad : Nat → Nat) (N : Nat) (g : Nat → va_E) (sz : Nat) (uns : Bool) (play rd n : Nat) (lat : Nat → Int32) (gar T : Nat → Nat) (came : Nat) (mis lost bel : Int32) (fig : Bool) (fi u : Nat) (z : Nat → Nat) (F : Nat → Nat → Nat) (r : Nat → Option Nat) (q : Nat) (hN : 50 ≤ N) (hW : CW play rd n lat gar T) (hwf : cWf (fi, u, z, F)) (hcame : came < 2000000000) (hC : CR k ad g uns play rd n lat gar T (came, mis, lost, bel, fig, fi, u, z, F) r) (hq : q < 11) : mCi k l yX3_counted wsX3_counted { frames := 2, cells := 0, slots := 0, locals := 45 } ad N g sz [.ref (ad 0), .int (nI q)] (fun r1 g1 => r1 = cntV u (sumz z fi u) fig play n rd came mis lost uns bel q ∧ g1 = g) := by
  refine mOf (Qc := fun z9 => va_Qi (fun r1 g1 => r1 = cntV u (sumz z fi u) fig play n rd came mis lost uns bel q ∧ g1 = g) (mB k ad N) (mA ad N z9)) (cc := cX3_counted) (maxL := 2) (ret := (some .int)) (by decide) rfl (Nat.le_of_ble_eq_true rfl) ?_
  intro p e s m below meth c hx hb hr hts hown hlocks hml hin hE hI ls hl
  have hl : lv_has ls 2 [(0, .ref (ad 0)), (1, .int (nI q))] := hl
  have h0 : g 0 = .inr (3, [.ref (ad 1), .ref (ad 6), .ref (ad 48), .int (nI rd), .int (bI fig), .int (bI uns), .int (nI came), .int mis, .int lost, .int bel]) := hC.1
  have hWi : CWi k ad g play lat gar := hC.2.1
  have hSh : CSh k ad g fi u z F r := hC.2.2.1
  have h48 : g 48 = .inr (0, [.ref (ad 49), .int (nI n)]) := hC.2.2.2.1
  have h49 : g 49 = .inl (k.2.1.1, 120, .inl (fun j => nI (T j))) := hC.2.2.2.2
  have hr48 : CRow k ad g 48 120 n (fun j => nI (T j)) := ⟨h48, h49⟩
  have h1 := hWi.1
  have h6 : g 6 = .inr (1, [.ref (ad 7), .int (nI fi), .int (nI u)]) := hSh.1
  obtain ⟨hplay, hrd, hn, hgar, hT, hlat⟩ := id hW
  have hfi : fi < 20 := hwf.1
  have hu0 : 0 < u := hwf.2.1
  have hu : u ≤ 20 := hwf.2.2
  refine lv_iload_n hx hb dX3_counted_0 rfl (lv_at hl 1 rfl) ?_
  have hsw : q = 0 ∨ q = 1 ∨ q = 2 ∨ q = 3 ∨ q = 4 ∨ q = 5 ∨ q = 6 ∨ q = 7 ∨ q = 8 ∨ q = 9 ∨ q = 10 := by omega
  rcases hsw with rfl | rfl | rfl | rfl | rfl | rfl | rfl | rfl | rfl | rfl | rfl
  · refine lv_tableIn (tgt := 56) hx hb dX3_counted_1 (by decide) (by decide) (off := 55) (by decide) (by decide) ?_
    refine lv_aload_n hx hb dX3_counted_56 rfl (lv_at hl 0 rfl) ?_
    refine m_get (ci := 3) (C := RX3) (T := TX3) (N' := 10) hx hb hts (by decide +kernel) hown hE hI 0 (by omega) h0 rfl 1 (by decide) (hts (.fieldLink RX3 19 "TapePrinter" "sheet" "LTapePrinter$Sheet;") (by decide +kernel)) rfl dX3_counted_57 ?_
    refine m_callVi (As := []) (rest := []) ⟨hx, hb, hml, hown, hts⟩ hE hI (c_X1_lines k l ad N g _ fi u z F r  (by omega) (by omega) (by omega) (by omega) hSh ) (cwV 0 hts gX3_counted_X1_lines rfl rfl rfl (by decide +kernel) ⟨Nat.le_of_ble_eq_true rfl, Nat.le_of_ble_eq_true rfl⟩) (i := 6) (by omega) h6 rfl rfl hl.1 rfl (Nat.le_of_ble_eq_true rfl) dX3_counted_60 ⟨Nat.le_of_ble_eq_true rfl, Nat.le_of_ble_eq_true rfl⟩ (m_deti (fun H locs hI => ?_))
    exact m_iret hx hb hr hlocks hI (⟨rfl, rfl⟩) dX3_counted_63
  · refine lv_tableIn (tgt := 64) hx hb dX3_counted_1 (by decide) (by decide) (off := 63) (by decide) (by decide) ?_
    refine lv_aload_n hx hb dX3_counted_64 rfl (lv_at hl 0 rfl) ?_
    refine m_get (ci := 3) (C := RX3) (T := TX3) (N' := 10) hx hb hts (by decide +kernel) hown hE hI 0 (by omega) h0 rfl 1 (by decide) (hts (.fieldLink RX3 19 "TapePrinter" "sheet" "LTapePrinter$Sheet;") (by decide +kernel)) rfl dX3_counted_65 ?_
    refine m_callVi (As := []) (rest := []) ⟨hx, hb, hml, hown, hts⟩ hE hI (c_X1_characters k l ad N g _ fi u z F r  (by omega) (by omega) (by omega) (by omega) hSh ) (cwV 0 hts gX3_counted_X1_characters rfl rfl rfl (by decide +kernel) ⟨Nat.le_of_ble_eq_true rfl, Nat.le_of_ble_eq_true rfl⟩) (i := 6) (by omega) h6 rfl rfl hl.1 rfl (Nat.le_of_ble_eq_true rfl) dX3_counted_68 ⟨Nat.le_of_ble_eq_true rfl, Nat.le_of_ble_eq_true rfl⟩ (m_deti (fun H locs hI => ?_))
    exact m_iret hx hb hr hlocks hI (⟨rfl, rfl⟩) dX3_counted_71
  · refine lv_tableIn (tgt := 72) hx hb dX3_counted_1 (by decide) (by decide) (off := 71) (by decide) (by decide) ?_
    refine lv_aload_n hx hb dX3_counted_72 rfl (lv_at hl 0 rfl) ?_
    refine m_get (ci := 3) (C := RX3) (T := TX3) (N' := 10) hx hb hts (by decide +kernel) hown hE hI 0 (by omega) h0 rfl 4 (by decide) (hts (.fieldLink RX3 61 "TapePrinter" "figures" "Z") (by decide +kernel)) rfl dX3_counted_73 ?_
    refine m_zeqB (tgt := 83) hx hb dX3_counted_76 (by decide) (fun c_76 => ?_) (fun c_76 => ?_)
    · refine lv_iconst (v := nI 0) hx hb dX3_counted_83 (by decide) ?_
      refine m_top (y := bI fig) (by rw [c_76]; decide) ?_
      exact m_iret hx hb hr hlocks hI (⟨rfl, rfl⟩) dX3_counted_84
    · refine lv_iconst (v := nI 1) hx hb dX3_counted_79 (by decide) ?_
      refine lv_goto (tgt := 84) hx hb dX3_counted_80 (by decide) ?_
      refine m_top (y := bI fig) (by rw [c_76]; decide) ?_
      exact m_iret hx hb hr hlocks hI (⟨rfl, rfl⟩) dX3_counted_84
  · refine lv_tableIn (tgt := 85) hx hb dX3_counted_1 (by decide) (by decide) (off := 84) (by decide) (by decide) ?_
    refine lv_aload_n hx hb dX3_counted_85 rfl (lv_at hl 0 rfl) ?_
    refine m_get (ci := 3) (C := RX3) (T := TX3) (N' := 10) hx hb hts (by decide +kernel) hown hE hI 0 (by omega) h0 rfl 0 (by decide) (hts (.fieldLink RX3 10 "TapePrinter" "wire" "LTapePrinter$Wire;") (by decide +kernel)) rfl dX3_counted_86 ?_
    refine m_callVi (As := []) (rest := []) ⟨hx, hb, hml, hown, hts⟩ hE hI (c_X2_play k l ad N g _ play lat gar  (by omega) hWi ) (cwV 0 hts gX3_counted_X2_play rfl rfl rfl (by decide +kernel) ⟨Nat.le_of_ble_eq_true rfl, Nat.le_of_ble_eq_true rfl⟩) (i := 1) (by omega) h1 rfl rfl hl.1 rfl (Nat.le_of_ble_eq_true rfl) dX3_counted_89 ⟨Nat.le_of_ble_eq_true rfl, Nat.le_of_ble_eq_true rfl⟩ (m_deti (fun H locs hI => ?_))
    exact m_iret hx hb hr hlocks hI (⟨rfl, rfl⟩) dX3_counted_92
  · refine lv_tableIn (tgt := 93) hx hb dX3_counted_1 (by decide) (by decide) (off := 92) (by decide) (by decide) ?_
    refine lv_aload_n hx hb dX3_counted_93 rfl (lv_at hl 0 rfl) ?_
    refine m_get (ci := 3) (C := RX3) (T := TX3) (N' := 10) hx hb hts (by decide +kernel) hown hE hI 0 (by omega) h0 rfl 2 (by decide) (hts (.fieldLink RX3 28 "TapePrinter" "strip" "LTapePrinter$Row;") (by decide +kernel)) rfl dX3_counted_94 ?_
    refine m_callVi (As := []) (rest := []) ⟨hx, hb, hml, hown, hts⟩ hE hI (c_X0_size k l ad N g _ 48 120 n (fun j => nI (T j))  (by omega) (by omega) (by omega) ⟨h48, h49⟩) (cwV 0 hts gX3_counted_X0_size rfl rfl rfl (by decide +kernel) ⟨Nat.le_of_ble_eq_true rfl, Nat.le_of_ble_eq_true rfl⟩) (i := 48) (by omega) h48 rfl rfl hl.1 rfl (Nat.le_of_ble_eq_true rfl) dX3_counted_97 ⟨Nat.le_of_ble_eq_true rfl, Nat.le_of_ble_eq_true rfl⟩ (m_deti (fun H locs hI => ?_))
    exact m_iret hx hb hr hlocks hI (⟨rfl, rfl⟩) dX3_counted_100
  · refine lv_tableIn (tgt := 101) hx hb dX3_counted_1 (by decide) (by decide) (off := 100) (by decide) (by decide) ?_
    refine lv_aload_n hx hb dX3_counted_101 rfl (lv_at hl 0 rfl) ?_
    refine m_get (ci := 3) (C := RX3) (T := TX3) (N' := 10) hx hb hts (by decide +kernel) hown hE hI 0 (by omega) h0 rfl 3 (by decide) (hts (.fieldLink RX3 135 "TapePrinter" "reader" "I") (by decide +kernel)) rfl dX3_counted_102 ?_
    exact m_iret hx hb hr hlocks hI (⟨rfl, rfl⟩) dX3_counted_105
  · refine lv_tableIn (tgt := 106) hx hb dX3_counted_1 (by decide) (by decide) (off := 105) (by decide) (by decide) ?_
    refine lv_aload_n hx hb dX3_counted_106 rfl (lv_at hl 0 rfl) ?_
    refine m_get (ci := 3) (C := RX3) (T := TX3) (N' := 10) hx hb hts (by decide +kernel) hown hE hI 0 (by omega) h0 rfl 6 (by decide) (hts (.fieldLink RX3 158 "TapePrinter" "came" "I") (by decide +kernel)) rfl dX3_counted_107 ?_
    exact m_iret hx hb hr hlocks hI (⟨rfl, rfl⟩) dX3_counted_110
  · refine lv_tableIn (tgt := 111) hx hb dX3_counted_1 (by decide) (by decide) (off := 110) (by decide) (by decide) ?_
    refine lv_aload_n hx hb dX3_counted_111 rfl (lv_at hl 0 rfl) ?_
    refine m_get (ci := 3) (C := RX3) (T := TX3) (N' := 10) hx hb hts (by decide +kernel) hown hE hI 0 (by omega) h0 rfl 7 (by decide) (hts (.fieldLink RX3 198 "TapePrinter" "misread" "I") (by decide +kernel)) rfl dX3_counted_112 ?_
    exact m_iret hx hb hr hlocks hI (⟨rfl, rfl⟩) dX3_counted_115
  · refine lv_tableIn (tgt := 116) hx hb dX3_counted_1 (by decide) (by decide) (off := 115) (by decide) (by decide) ?_
    refine lv_aload_n hx hb dX3_counted_116 rfl (lv_at hl 0 rfl) ?_
    refine m_get (ci := 3) (C := RX3) (T := TX3) (N' := 10) hx hb hts (by decide +kernel) hown hE hI 0 (by omega) h0 rfl 8 (by decide) (hts (.fieldLink RX3 201 "TapePrinter" "lost" "I") (by decide +kernel)) rfl dX3_counted_117 ?_
    exact m_iret hx hb hr hlocks hI (⟨rfl, rfl⟩) dX3_counted_120
  · refine lv_tableIn (tgt := 121) hx hb dX3_counted_1 (by decide) (by decide) (off := 120) (by decide) (by decide) ?_
    refine lv_aload_n hx hb dX3_counted_121 rfl (lv_at hl 0 rfl) ?_
    refine m_get (ci := 3) (C := RX3) (T := TX3) (N' := 10) hx hb hts (by decide +kernel) hown hE hI 0 (by omega) h0 rfl 5 (by decide) (hts (.fieldLink RX3 90 "TapePrinter" "unshifts" "Z") (by decide +kernel)) rfl dX3_counted_122 ?_
    refine m_zeqB (tgt := 132) hx hb dX3_counted_125 (by decide) (fun c_125 => ?_) (fun c_125 => ?_)
    · refine lv_iconst (v := nI 0) hx hb dX3_counted_132 (by decide) ?_
      refine m_top (y := bI uns) (by rw [c_125]; decide) ?_
      exact m_iret hx hb hr hlocks hI (⟨rfl, rfl⟩) dX3_counted_133
    · refine lv_iconst (v := nI 1) hx hb dX3_counted_128 (by decide) ?_
      refine lv_goto (tgt := 133) hx hb dX3_counted_129 (by decide) ?_
      refine m_top (y := bI uns) (by rw [c_125]; decide) ?_
      exact m_iret hx hb hr hlocks hI (⟨rfl, rfl⟩) dX3_counted_133
  · refine lv_tableOut (tgt := 134) hx hb dX3_counted_1 (by decide) (by decide) ?_
    refine lv_aload_n hx hb dX3_counted_134 rfl (lv_at hl 0 rfl) ?_
    refine m_get (ci := 3) (C := RX3) (T := TX3) (N' := 10) hx hb hts (by decide +kernel) hown hE hI 0 (by omega) h0 rfl 9 (by decide) (hts (.fieldLink RX3 204 "TapePrinter" "bells" "I") (by decide +kernel)) rfl dX3_counted_135 ?_
    exact m_iret hx hb hr hlocks hI (⟨rfl, rfl⟩) dX3_counted_138
set_option maxHeartbeats 8000000 in
set_option maxRecDepth 100000 in
theorem c_X3_count (k : mC) (l : Launch) (hst : l.stackTraces = false) (ad : Nat → Nat) (N : Nat) (g : Nat → va_E) (sz : Nat) (uns : Bool) (play rd n : Nat) (lat : Nat → Int32) (gar T : Nat → Nat) (came : Nat) (mis lost bel : Int32) (fig : Bool) (fi u : Nat) (z : Nat → Nat) (F : Nat → Nat → Nat) (r : Nat → Option Nat) (p0 : Int32) (hN : 50 ≤ N) (hW : CW play rd n lat gar T) (hwf : cWf (fi, u, z, F)) (hcame : came < 2000000000) (hC : CR k ad g uns play rd n lat gar T (came, mis, lost, bel, fig, fi, u, z, F) r)  : mXi k l yX3_count wsX3_count { frames := 6, cells := 1, slots := 6, locals := 82 } ad N g sz [.ref (ad 0), .int p0] (fun r1 g1 => inN p0 11 = true ∧ r1 = cntV u (sumz z fi u) fig play n rd came mis lost uns bel (tn p0) ∧ g1 = g) (fun E => E = "java/lang/IndexOutOfBoundsException" ∧ inN p0 11 = false) := by
  refine mOfX (cc := cX3_count) (maxL := 2) (ret := (some .int)) (by decide) rfl (Nat.le_of_ble_eq_true rfl) ?_
  intro p e s m below meth c hx hb hr hts hown hlocks hml htab hE hI ls hl
  have hl : lv_has ls 2 [(0, .ref (ad 0)), (1, .int p0)] := hl
  have h0 : g 0 = .inr (3, [.ref (ad 1), .ref (ad 6), .ref (ad 48), .int (nI rd), .int (bI fig), .int (bI uns), .int (nI came), .int mis, .int lost, .int bel]) := hC.1
  have hWi : CWi k ad g play lat gar := hC.2.1
  have hSh : CSh k ad g fi u z F r := hC.2.2.1
  have h48 : g 48 = .inr (0, [.ref (ad 49), .int (nI n)]) := hC.2.2.2.1
  have h49 : g 49 = .inl (k.2.1.1, 120, .inl (fun j => nI (T j))) := hC.2.2.2.2
  have hr48 : CRow k ad g 48 120 n (fun j => nI (T j)) := ⟨h48, h49⟩
  have h1 := hWi.1
  have h6 : g 6 = .inr (1, [.ref (ad 7), .int (nI fi), .int (nI u)]) := hSh.1
  obtain ⟨hplay, hrd, hn, hgar, hT, hlat⟩ := id hW
  have hfi : fi < 20 := hwf.1
  have hu0 : 0 < u := hwf.2.1
  have hu : u ≤ 20 := hwf.2.2
  refine lv_iload_n hx hb dX3_count_0 rfl (lv_at hl 1 rfl) ?_
  refine lv_if_lt (tgt := 10) hx hb dX3_count_1 (by decide) (fun c_1 => ?_) (fun c_1 => ?_)
  · exact m_throwS hx hb hst hown (cls := "java/lang/IndexOutOfBoundsException") (ik := 36) (is := 153) (ic := 40) x_fit36 (hts (.classLink RX3 36 "java/lang/IndexOutOfBoundsException") (by decide +kernel)) (hts (.initialized "java/lang/IndexOutOfBoundsException") (by decide +kernel)) (x_hat36 hE.1.2.2.2.2.2 (fun w h => hts w (List.mem_cons_of_mem _ (List.mem_append_right _ h)))) x_good36 (text := "nothing such is counted") (by decide) hE hI (by rw [hml]; exact hl.1) dX3_count_10 dX3_count_13 dX3_count_14 dX3_count_16 dX3_count_19 htab hlocks (by decide) (Nat.le_of_ble_eq_true rfl) (⟨rfl, inN_neg c_1⟩)
  · refine lv_iload_n hx hb dX3_count_4 rfl (lv_at hl 1 rfl) ?_
    refine lv_bipush (v := nI 10) hx hb dX3_count_5 (by decide) ?_
    refine lv_icmp_le (tgt := 20) hx hb dX3_count_7 (by decide) (fun c_7 => ?_) (fun c_7 => ?_)
    · have hin0 : inN p0 11 = true := inN_le c_1 c_7 (by omega)
      obtain ⟨j, hj, rfl⟩ := inN_ex hin0 (by omega)
      have htnj := tn_nI (j := j) (by omega)
      have hl : lv_has ls 2 [(0, .ref (ad 0)), (1, .int (nI j))] := hl
      refine lv_aload_n hx hb dX3_count_20 rfl (lv_at hl 0 rfl) ?_
      refine lv_iload_n hx hb dX3_count_21 rfl (lv_at hl 1 rfl) ?_
      refine m_callVi (As := [.int (nI j)]) (rest := []) ⟨hx, hb, hml, hown, hts⟩ hE hI (c_X3_counted k l ad N g _ uns play rd n lat gar T came mis lost bel fig fi u z F r j (by omega) hW hwf (by omega) hC (by omega)) (cwV 1 hts gX3_count_X3_counted rfl rfl rfl (by decide +kernel) ⟨Nat.le_of_ble_eq_true rfl, Nat.le_of_ble_eq_true rfl⟩) (i := 0) (by omega) h0 rfl rfl hl.1 rfl (Nat.le_of_ble_eq_true rfl) dX3_count_22 ⟨Nat.le_of_ble_eq_true rfl, Nat.le_of_ble_eq_true rfl⟩ (m_deti (fun H locs hI => ?_))
      refine vx_ret ?_
      refine W.widen (k := 1) (n := 6) (by omega) (by omega) ?_
      exact m_iret hx hb hr hlocks hI (⟨hin0, by rw [htnj], rfl⟩) dX3_count_25
    · exact m_throwS hx hb hst hown (cls := "java/lang/IndexOutOfBoundsException") (ik := 36) (is := 153) (ic := 40) x_fit36 (hts (.classLink RX3 36 "java/lang/IndexOutOfBoundsException") (by decide +kernel)) (hts (.initialized "java/lang/IndexOutOfBoundsException") (by decide +kernel)) (x_hat36 hE.1.2.2.2.2.2 (fun w h => hts w (List.mem_cons_of_mem _ (List.mem_append_right _ h)))) x_good36 (text := "nothing such is counted") (by decide) hE hI (by rw [hml]; exact hl.1) dX3_count_10 dX3_count_13 dX3_count_14 dX3_count_16 dX3_count_19 htab hlocks (by decide) (Nat.le_of_ble_eq_true rfl) (⟨rfl, inN_nle c_7 (by omega)⟩)
set_option maxHeartbeats 8000000 in
set_option maxRecDepth 100000 in
theorem c_X3_wrong (k : mC) (l : Launch) (ad : Nat → Nat) (N : Nat) (g : Nat → va_E) (sz : Nat) (uns : Bool) (play rd n : Nat) (lat : Nat → Int32) (gar T : Nat → Nat) (came : Nat) (mis lost bel : Int32) (fig : Bool) (fi u : Nat) (z : Nat → Nat) (F : Nat → Nat → Nat) (r : Nat → Option Nat)  (hN : 50 ≤ N) (hW : CW play rd n lat gar T) (hwf : cWf (fi, u, z, F)) (hcame : came < 2000000000) (hC : CR k ad g uns play rd n lat gar T (came, mis, lost, bel, fig, fi, u, z, F) r)  : mCi k l yX3_wrong wsX3_wrong { frames := 3, cells := 0, slots := 0, locals := 67 } ad N g sz [.ref (ad 0)] (fun r1 g1 => r1 = nI (wrN play lat gar T rd came (n - rd)) ∧ g1 = g) := by
  refine mOf (Qc := fun z9 => va_Qi (fun r1 g1 => r1 = nI (wrN play lat gar T rd came (n - rd)) ∧ g1 = g) (mB k ad N) (mA ad N z9)) (cc := cX3_wrong) (maxL := 4) (ret := (some .int)) (by decide) rfl (Nat.le_of_ble_eq_true rfl) ?_
  intro p e s m below meth c hx hb hr hts hown hlocks hml hin hE hI ls hl
  have hl : lv_has ls 4 [(0, .ref (ad 0))] := hl
  have h0 : g 0 = .inr (3, [.ref (ad 1), .ref (ad 6), .ref (ad 48), .int (nI rd), .int (bI fig), .int (bI uns), .int (nI came), .int mis, .int lost, .int bel]) := hC.1
  have hWi : CWi k ad g play lat gar := hC.2.1
  have hSh : CSh k ad g fi u z F r := hC.2.2.1
  have h48 : g 48 = .inr (0, [.ref (ad 49), .int (nI n)]) := hC.2.2.2.1
  have h49 : g 49 = .inl (k.2.1.1, 120, .inl (fun j => nI (T j))) := hC.2.2.2.2
  have hr48 : CRow k ad g 48 120 n (fun j => nI (T j)) := ⟨h48, h49⟩
  have h1 := hWi.1
  have h6 : g 6 = .inr (1, [.ref (ad 7), .int (nI fi), .int (nI u)]) := hSh.1
  obtain ⟨hplay, hrd, hn, hgar, hT, hlat⟩ := id hW
  have hfi : fi < 20 := hwf.1
  have hu0 : 0 < u := hwf.2.1
  have hu : u ≤ 20 := hwf.2.2
  refine lv_iconst (v := nI 0) hx hb dX3_wrong_0 (by decide) ?_
  refine lv_istore_n (lv' := [(1, .int (nI 0)), (0, .ref (ad 0))]) hx hb dX3_wrong_1 rfl hl (by decide) rfl (fun ls hl => ?_)
  refine lv_aload_n hx hb dX3_wrong_2 rfl (lv_at hl 1 rfl) ?_
  refine m_get (ci := 3) (C := RX3) (T := TX3) (N' := 10) hx hb hts (by decide +kernel) hown hE hI 0 (by omega) h0 rfl 3 (by decide) (hts (.fieldLink RX3 135 "TapePrinter" "reader" "I") (by decide +kernel)) rfl dX3_wrong_3 ?_
  refine lv_istore_n (lv' := [(2, .int (nI rd)), (1, .int (nI 0)), (0, .ref (ad 0))]) hx hb dX3_wrong_6 rfl hl (by decide) rfl (fun ls hl => ?_)
  refine m_loop (σ := Nat) (fun i => rd + i ≤ n) (fun i => n - i) (fun i => g) (fun i => [(0, .ref (ad 0)), (1, .int (nI (wrN play lat gar T rd came i))), (2, .int (nI (rd + i)))]) (nL := 4) 0 (show rd + 0 ≤ n by omega) hI (lv_sub hl [2, 1, 0] rfl) ?_
  rintro i hin1 ih7 H locs ls hI hl
  have hI : mI k ad N g (mA ad N s.heap.size) s H locs := hI
  have hl : lv_has ls 4 [(0, .ref (ad 0)), (1, .int (nI (wrN play lat gar T rd came i))), (2, .int (nI (rd + i)))] := hl
  have hwn := wrN_le play lat gar T rd came i
  refine lv_iload_n hx hb dX3_wrong_7 rfl (lv_at hl 2 rfl) ?_
  refine lv_aload_n hx hb dX3_wrong_8 rfl (lv_at hl 0 rfl) ?_
  refine m_get (ci := 3) (C := RX3) (T := TX3) (N' := 10) hx hb hts (by decide +kernel) hown hE hI 0 (by omega) h0 rfl 2 (by decide) (hts (.fieldLink RX3 28 "TapePrinter" "strip" "LTapePrinter$Row;") (by decide +kernel)) rfl dX3_wrong_9 ?_
  refine m_callVi (As := []) (rest := [.int (nI (rd + i))]) ⟨hx, hb, hml, hown, hts⟩ hE hI (c_X0_size k l ad N g _ 48 120 n (fun j => nI (T j))  (by omega) (by omega) (by omega) ⟨h48, h49⟩) (cwV 0 hts gX3_wrong_X0_size rfl rfl rfl (by decide +kernel) ⟨Nat.le_of_ble_eq_true rfl, Nat.le_of_ble_eq_true rfl⟩) (i := 48) (by omega) h48 rfl rfl hl.1 rfl (Nat.le_of_ble_eq_true rfl) dX3_wrong_12 ⟨Nat.le_of_ble_eq_true rfl, Nat.le_of_ble_eq_true rfl⟩ (m_deti (fun H locs hI => ?_))
  refine m_cgeN (tgt := 59) hx hb (by omega) (by omega) dX3_wrong_15 (by decide) (fun c_15 => ?_) (fun c_15 => ?_)
  · refine lv_iload_n hx hb dX3_wrong_59 rfl (lv_at hl 1 rfl) ?_
    exact m_iret hx hb hr hlocks hI (⟨by rw [show n - rd = i by omega], rfl⟩) dX3_wrong_60
  · refine lv_aload_n hx hb dX3_wrong_18 rfl (lv_at hl 0 rfl) ?_
    refine m_get (ci := 3) (C := RX3) (T := TX3) (N' := 10) hx hb hts (by decide +kernel) hown hE hI 0 (by omega) h0 rfl 2 (by decide) (hts (.fieldLink RX3 28 "TapePrinter" "strip" "LTapePrinter$Row;") (by decide +kernel)) rfl dX3_wrong_19 ?_
    refine lv_iload_n hx hb dX3_wrong_22 rfl (lv_at hl 2 rfl) ?_
    refine m_callVi (As := [.int (nI (rd + i))]) (rest := []) ⟨hx, hb, hml, hown, hts⟩ hE hI (c_X0_at k l ad N g _ 48 120 n (fun j => nI (T j)) (rd + i) (by omega) (by omega) (by omega) ⟨h48, h49⟩ (by omega)) (cwV 1 hts gX3_wrong_X0_at rfl rfl rfl (by decide +kernel) ⟨Nat.le_of_ble_eq_true rfl, Nat.le_of_ble_eq_true rfl⟩) (i := 48) (by omega) h48 rfl rfl hl.1 rfl (Nat.le_of_ble_eq_true rfl) dX3_wrong_23 ⟨Nat.le_of_ble_eq_true rfl, Nat.le_of_ble_eq_true rfl⟩ (m_deti (fun H locs hI => ?_))
    refine m_top (show (fun j => nI (T j)) (rd + i) = nI (T (rd + i)) from rfl) ?_
    have ht_1 := hT (rd + i)
    refine lv_istore_n (lv' := [(3, .int (nI (T (rd + i)))), (0, .ref (ad 0)), (1, .int (nI (wrN play lat gar T rd came i))), (2, .int (nI (rd + i)))]) hx hb dX3_wrong_26 rfl hl (by decide) rfl (fun ls hl => ?_)
    refine lv_aload_n hx hb dX3_wrong_27 rfl (lv_at hl 1 rfl) ?_
    refine m_get (ci := 3) (C := RX3) (T := TX3) (N' := 10) hx hb hts (by decide +kernel) hown hE hI 0 (by omega) h0 rfl 0 (by decide) (hts (.fieldLink RX3 10 "TapePrinter" "wire" "LTapePrinter$Wire;") (by decide +kernel)) rfl dX3_wrong_28 ?_
    refine lv_iload_n hx hb dX3_wrong_31 rfl (lv_at hl 0 rfl) ?_
    refine lv_aload_n hx hb dX3_wrong_32 rfl (lv_at hl 1 rfl) ?_
    refine m_get (ci := 3) (C := RX3) (T := TX3) (N' := 10) hx hb hts (by decide +kernel) hown hE hI 0 (by omega) h0 rfl 6 (by decide) (hts (.fieldLink RX3 158 "TapePrinter" "came" "I") (by decide +kernel)) rfl dX3_wrong_33 ?_
    refine lv_iload_n hx hb dX3_wrong_36 rfl (lv_at hl 3 rfl) ?_
    refine m_iaddN hx hb dX3_wrong_37 ?_
    refine lv_aload_n hx hb dX3_wrong_38 rfl (lv_at hl 1 rfl) ?_
    refine m_get (ci := 3) (C := RX3) (T := TX3) (N' := 10) hx hb hts (by decide +kernel) hown hE hI 0 (by omega) h0 rfl 3 (by decide) (hts (.fieldLink RX3 135 "TapePrinter" "reader" "I") (by decide +kernel)) rfl dX3_wrong_39 ?_
    refine m_isubN hx hb (by omega) dX3_wrong_42 ?_
    refine m_top (show nI ((came + (rd + i)) - rd) = nI (came + i) from by rw [show came + (rd + i) - rd = came + i by omega]) ?_
    have hrl := rdF_lt (play := play) (lt := lat ((came + i) % 16)) (hT (rd + i)) (hgar ((came + i) % 16) (Nat.mod_lt _ (by omega)))
    refine m_callVi (As := [.int (nI (T (rd + i))), .int (nI (came + i))]) (rest := []) ⟨hx, hb, hml, hown, hts⟩ hE hI (c_X2_readAs k l ad N g _ play lat gar (T (rd + i)) (came + i) (by omega) hWi (by omega) (by omega) hgar) (cwV 2 hts gX3_wrong_X2_readAs rfl rfl rfl (by decide +kernel) ⟨Nat.le_of_ble_eq_true rfl, Nat.le_of_ble_eq_true rfl⟩) (i := 1) (by omega) h1 rfl rfl hl.1 rfl (Nat.le_of_ble_eq_true rfl) dX3_wrong_43 ⟨Nat.le_of_ble_eq_true rfl, Nat.le_of_ble_eq_true rfl⟩ (m_deti (fun H locs hI => ?_))
    refine lv_iload_n hx hb dX3_wrong_46 rfl (lv_at hl 0 rfl) ?_
    refine m_ceqN (tgt := 53) hx hb (by omega) (by omega) dX3_wrong_47 (by decide) (fun c_47 => ?_) (fun c_47 => ?_)
    · have hdn : wrN play lat gar T rd came (i + 1) = wrN play lat gar T rd came i := by show (if rdF play (lat ((came + i) % 16)) (gar ((came + i) % 16)) (T (rd + i)) = T (rd + i) then wrN play lat gar T rd came i else wrN play lat gar T rd came i + 1) = _; rw [if_pos c_47]
      have hl : lv_has ls 4 [(3, .int (nI (T (rd + i)))), (0, .ref (ad 0)), (1, .int (nI (wrN play lat gar T rd came (i + 1)))), (2, .int (nI (rd + i)))] := by rw [hdn]; exact hl
      refine lv_iinc (v := nI ((rd + i) + 1)) (lv' := [(2, .int (nI ((rd + i) + 1))), (3, .int (nI (T (rd + i)))), (0, .ref (ad 0)), (1, .int (nI (wrN play lat gar T rd came (i + 1))))]) hx hb dX3_wrong_53 hl (k := 3) rfl (nI_add (rd + i) 1) (by decide) rfl (fun ls hl => ?_)
      refine lv_goto (tgt := 7) hx hb dX3_wrong_56 (by decide) ?_
      exact ih7 (i + 1) (show rd + (i + 1) ≤ n by omega) (show n - (i + 1) < n - i by omega) _ _ _ hI (lv_sub hl [2, 3, 0] rfl)
    · refine lv_iinc (v := nI ((wrN play lat gar T rd came i) + 1)) (lv' := [(1, .int (nI ((wrN play lat gar T rd came i) + 1))), (3, .int (nI (T (rd + i)))), (0, .ref (ad 0)), (2, .int (nI (rd + i)))]) hx hb dX3_wrong_50 hl (k := 2) rfl (nI_add (wrN play lat gar T rd came i) 1) (by decide) rfl (fun ls hl => ?_)
      have hdn : wrN play lat gar T rd came (i + 1) = (wrN play lat gar T rd came i) + 1 := by show (if rdF play (lat ((came + i) % 16)) (gar ((came + i) % 16)) (T (rd + i)) = T (rd + i) then wrN play lat gar T rd came i else wrN play lat gar T rd came i + 1) = _; rw [if_neg c_47]
      have hl : lv_has ls 4 [(1, .int (nI (wrN play lat gar T rd came (i + 1)))), (3, .int (nI (T (rd + i)))), (0, .ref (ad 0)), (2, .int (nI (rd + i)))] := by rw [hdn]; exact hl
      refine lv_iinc (v := nI ((rd + i) + 1)) (lv' := [(2, .int (nI ((rd + i) + 1))), (1, .int (nI (wrN play lat gar T rd came (i + 1)))), (3, .int (nI (T (rd + i)))), (0, .ref (ad 0))]) hx hb dX3_wrong_53 hl (k := 3) rfl (nI_add (rd + i) 1) (by decide) rfl (fun ls hl => ?_)
      refine lv_goto (tgt := 7) hx hb dX3_wrong_56 (by decide) ?_
      exact ih7 (i + 1) (show rd + (i + 1) ≤ n by omega) (show n - (i + 1) < n - i by omega) _ _ _ hI (lv_sub hl [3, 1, 0] rfl)
def mixI (d : Int64) (x : Int32) : Int64 := d * 31 + x.toInt64
/-- numbers mixed in, the first m of a row -/
def dg1 (f : Nat → Int32) (d : Int64) : Nat → Int64
  | 0 => d
  | m + 1 => mixI (dg1 f d m) (f m)
/-- two rows, side by side -/
def dg2 (f h : Nat → Int32) (d : Int64) : Nat → Int64
  | 0 => d
  | m + 1 => mixI (mixI (dg2 f h d m) (f m)) (h m)
/-- lines: each one's length, and its characters -/
def dg3 (zl : Nat → Nat) (pl : Nat → Nat → Int32) (d : Int64) : Nat → Int64
  | 0 => d
  | m + 1 => dg1 (pl m) (mixI (dg3 zl pl d m) (nI (zl m))) (zl m)
def dgA (cv : Nat → Int32) (lat gr : Nat → Int32) (u : Nat) (zl : Nat → Nat) (pl : Nat → Nat → Int32) (n : Nat) (tp : Nat → Int32) : Int64 :=
  dg1 tp (dg3 zl pl (dg2 lat gr (dg1 cv 1373 11) 16) u) n
theorem cWf_in {uns : Bool} {play : Nat} {lat : Nat → Int32} {gar : Nat → Nat} {co : Nat} {y : YT PC} (h : cWf y.2.2.2.2.2) : cWf (yIn cNl cFull cAdd uns play lat gar co y).2.2.2.2.2 := cWf_ob h
theorem cWf_run {uns : Bool} {play : Nat} {lat : Nat → Int32} {gar T : Nat → Nat} {rd : Nat} {y : YT PC} (h : cWf y.2.2.2.2.2) (m : Nat) : cWf (yRun cNl cFull cAdd uns play lat gar T rd y m).2.2.2.2.2 := by
  induction m with
  | zero => exact h
  | succ m ih => exact cWf_in ih
theorem CW.rd {play rd rd1 n : Nat} {lat : Nat → Int32} {gar T : Nat → Nat} (h : CW play rd n lat gar T) (h1 : rd1 ≤ n) : CW play rd1 n lat gar T := ⟨h.1, h1, h.2.2⟩
/-- the reader goes on -/
theorem CR.rd {k : mC} {ad : Nat → Nat} {g : Nat → va_E} {uns : Bool} {play rd n : Nat} {lat : Nat → Int32} {gar T : Nat → Nat} {y : YT PC} {r : Nat → Option Nat} (h : CR k ad g uns play rd n lat gar T y r) (rd1 : Nat) : CR k ad (va_up g 0 (.inr (3, [.ref (ad 1), .ref (ad 6), .ref (ad 48), .int (nI rd1), .int (bI y.2.2.2.2.1), .int (bI uns), .int (nI y.1), .int y.2.1, .int y.2.2.1, .int y.2.2.2.1]))) uns play rd1 n lat gar T y r :=
  ⟨va_up_self _ _ _, h.2.1.kept (fun i h1 h2 => va_up_ne _ _ (by omega)), h.2.2.1.kept (fun i h1 h2 => va_up_ne _ _ (by omega)), h.2.2.2.kept (va_up_ne _ _ (by omega)) (va_up_ne _ _ (by omega))⟩
set_option maxHeartbeats 8000000 in
set_option maxRecDepth 100000 in
theorem c_X3_run (k : mC) (l : Launch) (hst : l.stackTraces = false) (ad : Nat → Nat) (N : Nat) (g : Nat → va_E) (sz : Nat) (uns : Bool) (play rd n : Nat) (lat : Nat → Int32) (gar T : Nat → Nat) (came : Nat) (mis lost bel : Int32) (fig : Bool) (fi u : Nat) (z : Nat → Nat) (F : Nat → Nat → Nat) (r : Nat → Option Nat) (p0 : Int32) (hN : 50 ≤ N) (hW : CW play rd n lat gar T) (hwf : cWf (fi, u, z, F)) (hcame : came < 2000000000) (hC : CR k ad g uns play rd n lat gar T (came, mis, lost, bel, fig, fi, u, z, F) r)  : mXi k l yX3_run wsX3_run { frames := 6, cells := 1, slots := 6, locals := 107 } ad N g sz [.ref (ad 0), .int p0] (fun r1 g1 => in120 p0 = true ∧ r1 = nI (min (tn p0) (n - rd)) ∧ CR k ad g1 uns play (rd + min (tn p0) (n - rd)) n lat gar T (yRun cNl cFull cAdd uns play lat gar T rd (came, mis, lost, bel, fig, fi, u, z, F) (min (tn p0) (n - rd))) r ∧ ∀ i, 50 ≤ i → g1 i = g i) (fun E => E = "java/lang/IllegalArgumentException" ∧ in120 p0 = false) := by
  refine mOfX (cc := cX3_run) (maxL := 4) (ret := (some .int)) (by decide) rfl (Nat.le_of_ble_eq_true rfl) ?_
  intro p e s m below meth c hx hb hr hts hown hlocks hml htab hE hI ls hl
  have hl : lv_has ls 4 [(0, .ref (ad 0)), (1, .int p0)] := hl
  have h0 : g 0 = .inr (3, [.ref (ad 1), .ref (ad 6), .ref (ad 48), .int (nI rd), .int (bI fig), .int (bI uns), .int (nI came), .int mis, .int lost, .int bel]) := hC.1
  have hWi : CWi k ad g play lat gar := hC.2.1
  have hSh : CSh k ad g fi u z F r := hC.2.2.1
  have h48 : g 48 = .inr (0, [.ref (ad 49), .int (nI n)]) := hC.2.2.2.1
  have h49 : g 49 = .inl (k.2.1.1, 120, .inl (fun j => nI (T j))) := hC.2.2.2.2
  have hr48 : CRow k ad g 48 120 n (fun j => nI (T j)) := ⟨h48, h49⟩
  have h1 := hWi.1
  have h6 : g 6 = .inr (1, [.ref (ad 7), .int (nI fi), .int (nI u)]) := hSh.1
  obtain ⟨hplay, hrd, hn, hgar, hT, hlat⟩ := id hW
  have hfi : fi < 20 := hwf.1
  have hu0 : 0 < u := hwf.2.1
  have hu : u ≤ 20 := hwf.2.2
  refine lv_iload_n hx hb dX3_run_0 rfl (lv_at hl 1 rfl) ?_
  refine lv_iconst (v := nI 1) hx hb dX3_run_1 (by decide) ?_
  refine lv_icmp_lt (tgt := 11) hx hb dX3_run_2 (by decide) (fun c_2 => ?_) (fun c_2 => ?_)
  · exact m_throwS hx hb hst hown (cls := "java/lang/IllegalArgumentException") (ik := 67) (is := 133) (ic := 71) x_fit67 (hts (.classLink RX3 67 "java/lang/IllegalArgumentException") (by decide +kernel)) (hts (.initialized "java/lang/IllegalArgumentException") (by decide +kernel)) (x_hat67 hE.1.2.2.2.2.2 (fun w h => hts w (List.mem_cons_of_mem _ (List.mem_append_right _ h)))) x_good67 (text := "too few or too many") (by decide) hE hI (by rw [hml]; exact hl.1) dX3_run_11 dX3_run_14 dX3_run_15 dX3_run_17 dX3_run_20 htab hlocks (by decide) (Nat.le_of_ble_eq_true rfl) (⟨rfl, in120_lo c_2⟩)
  · refine lv_iload_n hx hb dX3_run_5 rfl (lv_at hl 1 rfl) ?_
    refine lv_bipush (v := nI 120) hx hb dX3_run_6 (by decide) ?_
    refine lv_icmp_le (tgt := 21) hx hb dX3_run_8 (by decide) (fun c_8 => ?_) (fun c_8 => ?_)
    · have hin0 : in120 p0 = true := in120_yes c_2 c_8
      obtain ⟨j, h1j, hj, rfl⟩ := in120_ex hin0
      have htnj := tn_nI (j := j) (by omega)
      have hl : lv_has ls 4 [(0, .ref (ad 0)), (1, .int (nI j))] := hl
      refine lv_iload_n hx hb dX3_run_21 rfl (lv_at hl 1 rfl) ?_
      refine lv_aload_n hx hb dX3_run_22 rfl (lv_at hl 0 rfl) ?_
      refine m_get (ci := 3) (C := RX3) (T := TX3) (N' := 10) hx hb hts (by decide +kernel) hown hE hI 0 (by omega) h0 rfl 2 (by decide) (hts (.fieldLink RX3 28 "TapePrinter" "strip" "LTapePrinter$Row;") (by decide +kernel)) rfl dX3_run_23 ?_
      refine m_callVi (As := []) (rest := [.int (nI j)]) ⟨hx, hb, hml, hown, hts⟩ hE hI (c_X0_size k l ad N g _ 48 120 n (fun j => nI (T j))  (by omega) (by omega) (by omega) ⟨h48, h49⟩) (cwV 0 hts gX3_run_X0_size rfl rfl rfl (by decide +kernel) ⟨Nat.le_of_ble_eq_true rfl, Nat.le_of_ble_eq_true rfl⟩) (i := 48) (by omega) h48 rfl rfl hl.1 rfl (Nat.le_of_ble_eq_true rfl) dX3_run_26 ⟨Nat.le_of_ble_eq_true rfl, Nat.le_of_ble_eq_true rfl⟩ (m_deti (fun H locs hI => ?_))
      refine lv_aload_n hx hb dX3_run_29 rfl (lv_at hl 0 rfl) ?_
      refine m_get (ci := 3) (C := RX3) (T := TX3) (N' := 10) hx hb hts (by decide +kernel) hown hE hI 0 (by omega) h0 rfl 3 (by decide) (hts (.fieldLink RX3 135 "TapePrinter" "reader" "I") (by decide +kernel)) rfl dX3_run_30 ?_
      refine m_isubN hx hb (by omega) dX3_run_33 ?_
      refine va_mmin hx hb (hml.trans hl.1.symm) hown (hts (.methodLink RX3 139 Lib.Math.min.name) (by decide +kernel)) (hts (.static Lib.Math.min.name) (by decide +kernel)) (hts (.initialized "java/lang/Math") (by decide +kernel)) (hts (.code Lib.Math.min.name Lib.Math.min.code 2 (some .int)) (by decide +kernel)) (Nat.le_of_ble_eq_true rfl) (Nat.le_of_ble_eq_true rfl) (Nat.zero_le _) (Nat.zero_le _) dX3_run_34 ?_
      refine m_top (min_nI (a := j) (b := n - rd) (by omega) (by omega)) ?_
      obtain ⟨mm, hmm⟩ : ∃ zz, zz = min j (n - rd) := ⟨_, rfl⟩
      rw [← hmm]
      have hmj : mm ≤ j := by omega
      have hmn : mm ≤ n - rd := by omega
      refine lv_istore_n (lv' := [(2, .int (nI mm)), (0, .ref (ad 0)), (1, .int (nI j))]) hx hb dX3_run_37 rfl hl (by decide) rfl (fun ls hl => ?_)
      refine lv_iconst (v := nI 0) hx hb dX3_run_38 (by decide) ?_
      refine lv_istore_n (lv' := [(3, .int (nI 0)), (2, .int (nI mm)), (0, .ref (ad 0)), (1, .int (nI j))]) hx hb dX3_run_39 rfl hl (by decide) rfl (fun ls hl => ?_)
      refine m_loop (σ := Nat × (Nat → va_E)) (fun ⟨i, gi⟩ => i ≤ mm ∧ CR k ad gi uns play (rd + i) n lat gar T (yRun cNl cFull cAdd uns play lat gar T rd (came, mis, lost, bel, fig, fi, u, z, F) i) r ∧ ∀ q, 50 ≤ q → gi q = g q) (fun ⟨i, gi⟩ => mm - i) (fun ⟨i, gi⟩ => gi) (fun ⟨i, gi⟩ => [(0, .ref (ad 0)), (1, .int (nI j)), (2, .int (nI mm)), (3, .int (nI i))]) (nL := 4) (0, g) ⟨Nat.zero_le _, hC, fun q _ => rfl⟩ hI (lv_sub hl [2, 3, 1, 0] rfl) ?_
      rintro ⟨i, gi⟩ ⟨him, hCi, hki⟩ ih40 H locs ls hI hl
      have hI : mI k ad N gi (mA ad N s.heap.size) s H locs := hI
      have hl : lv_has ls 4 [(0, .ref (ad 0)), (1, .int (nI j)), (2, .int (nI mm)), (3, .int (nI i))] := hl
      obtain ⟨g1, hg1⟩ : ∃ zz, zz = gi := ⟨_, rfl⟩
      replace hI : mI k ad N g1 (mA ad N s.heap.size) s H locs := by rw [hg1]; exact hI
      have hgi := hg1
      rw [← hg1] at hCi
      obtain ⟨yv, hyv⟩ : ∃ yv, yv = yRun cNl cFull cAdd uns play lat gar T rd (came, mis, lost, bel, fig, fi, u, z, F) i := ⟨_, rfl⟩
      have hy1 := yRun_1 (nl := cNl) (full := cFull) (add := cAdd) (uns := uns) (play := play) (lat := lat) (gar := gar) (T := T) (rd := rd) (y := (came, mis, lost, bel, fig, fi, u, z, F)) i
      have hwf1 := cWf_run (uns := uns) (play := play) (lat := lat) (gar := gar) (T := T) (rd := rd) (y := (came, mis, lost, bel, fig, fi, u, z, F)) hwf i
      have hCi9 := hCi
      rw [← hyv] at hy1 hwf1 hCi9
      obtain ⟨ca1, mi1, lo1, be1, fg1, fi1, u1, z1, F1⟩ := yv
      have hy2 : ca1 = came + i := hy1
      have hCj : CR k ad g1 uns play (rd + i) n lat gar T (ca1, mi1, lo1, be1, fg1, fi1, u1, z1, F1) r := hCi9
      have m0 : g1 0 = .inr (3, [.ref (ad 1), .ref (ad 6), .ref (ad 48), .int (nI (rd + i)), .int (bI fg1), .int (bI uns), .int (nI ca1), .int mi1, .int lo1, .int be1]) := hCj.1
      have m48 : g1 48 = .inr (0, [.ref (ad 49), .int (nI n)]) := hCj.2.2.2.1
      have m49 : g1 49 = .inl (k.2.1.1, 120, .inl (fun j => nI (T j))) := hCj.2.2.2.2
      refine lv_iload_n hx hb dX3_run_40 rfl (lv_at hl 3 rfl) ?_
      refine lv_iload_n hx hb dX3_run_41 rfl (lv_at hl 2 rfl) ?_
      refine m_cgeN (tgt := 77) hx hb (by omega) (by omega) dX3_run_42 (by decide) (fun c_42 => ?_) (fun c_42 => ?_)
      · refine lv_iload_n hx hb dX3_run_77 rfl (lv_at hl 2 rfl) ?_
        have him2 : i = mm := by omega
        subst him2
        refine vx_ret ?_
        refine W.widen (k := 1) (n := 6) (by omega) (by omega) ?_
        exact m_iret hx hb hr hlocks hI (⟨hin0, by rw [htnj, hmm], by rw [htnj, ← hmm]; exact hCi, fun q hq => by rw [hgi]; exact hki q hq⟩) dX3_run_78
      · refine lv_aload_n hx hb dX3_run_45 rfl (lv_at hl 0 rfl) ?_
        refine lv_aload_n hx hb dX3_run_46 rfl (lv_at hl 0 rfl) ?_
        refine m_get (ci := 3) (C := RX3) (T := TX3) (N' := 10) hx hb hts (by decide +kernel) hown hE hI 0 (by omega) m0 rfl 2 (by decide) (hts (.fieldLink RX3 28 "TapePrinter" "strip" "LTapePrinter$Row;") (by decide +kernel)) rfl dX3_run_47 ?_
        refine lv_aload_n hx hb dX3_run_50 rfl (lv_at hl 0 rfl) ?_
        refine m_get (ci := 3) (C := RX3) (T := TX3) (N' := 10) hx hb hts (by decide +kernel) hown hE hI 0 (by omega) m0 rfl 3 (by decide) (hts (.fieldLink RX3 135 "TapePrinter" "reader" "I") (by decide +kernel)) rfl dX3_run_51 ?_
        refine m_callVi (As := [.int (nI (rd + i))]) (rest := [.ref (ad 0)]) ⟨hx, hb, hml, hown, hts⟩ hE hI (c_X0_at k l ad N g1 _ 48 120 n (fun j => nI (T j)) (rd + i) (by omega) (by omega) (by omega) ⟨m48, m49⟩ (by omega)) (cwV 1 hts gX3_run_X0_at rfl rfl rfl (by decide +kernel) ⟨Nat.le_of_ble_eq_true rfl, Nat.le_of_ble_eq_true rfl⟩) (i := 48) (by omega) m48 rfl rfl hl.1 rfl (Nat.le_of_ble_eq_true rfl) dX3_run_54 ⟨Nat.le_of_ble_eq_true rfl, Nat.le_of_ble_eq_true rfl⟩ (m_deti (fun H locs hI => ?_))
        refine m_top (show (fun j => nI (T j)) (rd + i) = nI (T (rd + i)) from rfl) ?_
        have ht_1 := hT (rd + i)
        refine m_callVi (As := [.int (nI (T (rd + i)))]) (rest := []) ⟨hx, hb, hml, hown, hts⟩ hE hI (c_X3_takeIn k l ad N g1 _ uns play (rd + i) n lat gar T ca1 mi1 lo1 be1 fg1 fi1 u1 z1 F1 r (T (rd + i)) (by omega) (hW.rd (by omega)) hwf1 (by omega) hCj (hT _)) (cwV 1 hts gX3_run_X3_takeIn rfl rfl rfl (by decide +kernel) ⟨Nat.le_of_ble_eq_true rfl, Nat.le_of_ble_eq_true rfl⟩) (i := 0) (by omega) m0 rfl rfl hl.1 rfl (Nat.le_of_ble_eq_true rfl) dX3_run_57 ⟨Nat.le_of_ble_eq_true rfl, Nat.le_of_ble_eq_true rfl⟩ (fun r9 g9 H locs hp hI => ?_)
        obtain ⟨hrr, hC8, hk8⟩ := hp
        subst hrr
        have hyn : yIn cNl cFull cAdd uns play lat gar (T (rd + i)) (ca1, mi1, lo1, be1, fg1, fi1, u1, z1, F1) = yRun cNl cFull cAdd uns play lat gar T rd (came, mis, lost, bel, fig, fi, u, z, F) (i + 1) := by rw [hyv]; rfl
        rw [hyn] at hC8
        have hCi8 := hC8
        obtain ⟨yw, hyw⟩ : ∃ yw, yw = yRun cNl cFull cAdd uns play lat gar T rd (came, mis, lost, bel, fig, fi, u, z, F) (i + 1) := ⟨_, rfl⟩
        rw [← hyw] at hC8
        obtain ⟨ca2, mi2, lo2, be2, fg2, fi2, u2, z2, F2⟩ := yw
        have n0 : g9 0 = .inr (3, [.ref (ad 1), .ref (ad 6), .ref (ad 48), .int (nI (rd + i)), .int (bI fg2), .int (bI uns), .int (nI ca2), .int mi2, .int lo2, .int be2]) := hC8.1
        refine lv_pop hx hb dX3_run_60 rfl ?_
        refine lv_aload_n hx hb dX3_run_61 rfl (lv_at hl 0 rfl) ?_
        refine lv_dup hx hb dX3_run_62 rfl ?_
        refine m_get (ci := 3) (C := RX3) (T := TX3) (N' := 10) hx hb hts (by decide +kernel) hown hE hI 0 (by omega) n0 rfl 3 (by decide) (hts (.fieldLink RX3 135 "TapePrinter" "reader" "I") (by decide +kernel)) rfl dX3_run_63 ?_
        refine lv_iconst (v := nI 1) hx hb dX3_run_66 (by decide) ?_
        refine m_iaddN hx hb dX3_run_67 ?_
        refine m_put (ci := 3) (C := RX3) (T := TX3) (N' := 10) (ty := .int) hx hb hts (by decide +kernel) tyX3 tyX3_ok nmX3 hown hE hI 0 (by omega) n0 rfl 3 (by decide) (hts (.fieldLink RX3 135 "TapePrinter" "reader" "I") (by decide +kernel)) rfl (by decide +kernel) rfl rfl (Nat.le_of_ble_eq_true rfl) dX3_run_68 (fun H locs hI => ?_)
        obtain ⟨g2, hg2⟩ : ∃ zz, zz = va_up g9 0 (.inr (3, [.ref (ad 1), .ref (ad 6), .ref (ad 48), .int (nI ((rd + i) + 1)), .int (bI fg2), .int (bI uns), .int (nI ca2), .int mi2, .int lo2, .int be2])) := ⟨_, rfl⟩
        replace hI : mI k ad N g2 (mA ad N s.heap.size) s H locs := by rw [hg2]; exact hI
        have m_2 : g2 0 = .inr (3, [.ref (ad 1), .ref (ad 6), .ref (ad 48), .int (nI ((rd + i) + 1)), .int (bI fg2), .int (bI uns), .int (nI ca2), .int mi2, .int lo2, .int be2]) := by rw [hg2, va_up_self]
        refine lv_iinc (v := nI (i + 1)) (lv' := [(3, .int (nI (i + 1))), (0, .ref (ad 0)), (1, .int (nI j)), (2, .int (nI mm))]) hx hb dX3_run_71 hl (k := 3) rfl (nI_add i 1) (by decide) rfl (fun ls hl => ?_)
        refine lv_goto (tgt := 40) hx hb dX3_run_74 (by decide) ?_
        have hC7 : CR k ad g2 uns play (rd + (i + 1)) n lat gar T (ca2, mi2, lo2, be2, fg2, fi2, u2, z2, F2) r := by rw [hg2]; exact hC8.rd (rd + i + 1)
        rw [hyw] at hC7
        have hk7 : ∀ q, 50 ≤ q → g2 q = g q := fun q hq => by rw [hg2, va_up_ne _ _ (by omega), hk8 q hq, hgi]; exact hki q hq
        exact ih40 (i + 1, g2) ⟨by omega, hC7, hk7⟩ (show mm - (i + 1) < mm - i by omega) _ _ _ hI (lv_sub hl [1, 2, 3, 0] rfl)
    · exact m_throwS hx hb hst hown (cls := "java/lang/IllegalArgumentException") (ik := 67) (is := 133) (ic := 71) x_fit67 (hts (.classLink RX3 67 "java/lang/IllegalArgumentException") (by decide +kernel)) (hts (.initialized "java/lang/IllegalArgumentException") (by decide +kernel)) (x_hat67 hE.1.2.2.2.2.2 (fun w h => hts w (List.mem_cons_of_mem _ (List.mem_append_right _ h)))) x_good67 (text := "too few or too many") (by decide) hE hI (by rw [hml]; exact hl.1) dX3_run_11 dX3_run_14 dX3_run_15 dX3_run_17 dX3_run_20 htab hlocks (by decide) (Nat.le_of_ble_eq_true rfl) (⟨rfl, in120_hi c_8⟩)
end
section
/-! Means: contracts of methods that may draw which NaN they answer. -/
theorem mE.drawn {k : mC} {ad : Nat → Nat} {N : Nat} {A : Nat → Prop} {s : State} (h : mE k ad N A s) (d : Drawn) : mE k ad N A (s.setDrawn d) :=
  ⟨mK.call (U := s.setDrawn d) h.1 va_S.rf (fun _ h => h) rfl (State.WarmedH.refl s), h.2.1, h.2.2.1, h.2.2.2⟩
def mCd (k : mC) (l : Launch) (y : MethodName) (ws : List Cond) (rm : Room) (ad : Nat → Nat) (N : Nat) (g : Nat → va_E) (sz : Nat) (av : List Value) (post : UInt64 → (Nat → va_E) → Prop) : Prop :=
  MetD lw_cs l y ws rm (mPc k ad N g sz av) (va_Qd post (mB k ad N) (mA ad N sz)) 0 0 (mA ad N sz)
theorem mOfD {k : mC} {l : Launch} {y : MethodName} {ws ws' : List Cond} {rm : Room} {ad : Nat → Nat} {N : Nat} {g : Nat → va_E} {sz : Nat} {av : List Value} {cc : ByteArray} {maxL : Nat} {ret : Option FieldType} {post : UInt64 → (Nat → va_E) → Prop}
    (hy : plainName y.cls = true) (hw : ws = Cond.code y cc maxL ret :: ws') (hav : (lg_sl av).length ≤ maxL)
    (body : ∀ (p : Program) (e : Env) (s : State) (m : MethodId) (below : List Frame) (meth : Method) (c : Code), p.tables.exec = Jvm.exec → c.code = cc → meth.sig.returnType = ret → (∀ d : Drawn, ∀ w ∈ ws, w.before av.toArray (s.setDrawn d) = true) → s.vm.findClass y.cls = some m.cls → meth.locks = false → c.maxLocals = maxL → s.drawn.sameBut s.drawn lw_cs →
      (∀ d : Drawn, mE k ad N (mA ad N s.heap.size) (s.setDrawn d)) → mI k ad N g (mA ad N s.heap.size) (s.setDrawn s.drawn) s.heap [] → ∀ ls : Array Slot, lv_has ls maxL (lv_args 0 av) →
      W p l e rm (s.setDrawn s.drawn) m av.toArray below meth c s.heap [] 0 0 (MQD lw_cs below (va_Qd post (mB k ad N) (mA ad N s.heap.size)) av.toArray s 0 0 (mA ad N s.heap.size)) (F0 m 0 ls [])) :
    mCd k l y ws rm ad N g sz av post := by
  refine MetD.ofW (cc := cc) (maxL := maxL) (ret := ret) hy hw ?_
  intro p e s m args below meth c s₁ B hml hv hd0
  obtain ⟨rfl, hsz, hK, hP, hJ⟩ := hv
  subst hsz
  rw [lg_entry_eq]
  have hE : mE k ad N (mA ad N s.heap.size) s := ⟨hK, hJ, fun i hi => Or.inl ⟨i, hi, rfl⟩, fun q hq => Or.inr hq⟩
  exact body p e s m below meth c B.exec B.bytes B.returns (fun d => dr_words (atoms_spec (ws := ws) B.pre) d) (findClass_of_methodNamed B.named) B.notSynchronized hml hd0 (fun d => hE.drawn d) ⟨hP, va_S.rf⟩ _ (lv_entry av hav)
section MD
variable {p : Program} {l : Launch} {e : Env} {R : Room} {s : State} {m : MethodId} {args : Array Value} {below : List Frame} {meth : Method} {c : Code} {H : Heap} {locs : List Loc} {cells slots : Nat} {Q : State → Prop}
variable {cc : ByteArray} {pc : Nat} {ls : Array Slot} {rest : List Value} {k : mC} {ad : Nat → Nat} {N : Nat} {g : Nat → va_E} {A : Nat → Prop}
theorem m_dret (hx : p.tables.exec = Jvm.exec) (hb : c.code = cc) (hr : meth.sig.returnType = some .double) (hlocks : meth.locks = false) {d0 : Drawn} (hd0 : s.drawn.sameBut d0 lw_cs) (hI : mI k ad N g A (s.setDrawn d0) H locs) {post : UInt64 → (Nat → va_E) → Prop} {v : UInt64} (hp : post v g) (hdg : decode cc pc = .ok (.dreturn, 1)) :
    W p l e R (s.setDrawn d0) m args below meth c H locs cells slots (MQD lw_cs below (va_Qd post (mB k ad N) A) args s cells slots A) (F0 m pc ls [.double v]) := by
  refine W.endD hd0 ?_
  exact W.dret (v := v) hx hb hr (fun t ht hW => ⟨⟨v, g, rfl, hp, by unfold mB; rw [ht]; exact hI.1⟩, hI.2.F ht⟩) hI.2.2.2 hdg hlocks
variable {y : MethodName} {bytes : ByteArray} {maxL nL n index : Nat} {ret : Option FieldType} {ws : List Cond} {rm : Room} {Ts : List Cond} {own C : String} {As : List Value} {st0 : List Value}
/-- a call of a method that answers a double, and may draw -/
theorem m_callVd {d0 : Drawn} (hd0 : s.drawn.sameBut d0 lw_cs) (hfix : CallFix p m c cc nL (s.setDrawn d0) args Ts own) (hE : mE k ad N A (s.setDrawn d0)) (hI : mI k ad N g A (s.setDrawn d0) H locs) {post : UInt64 → (Nat → va_E) → Prop} {i : Nat} (hM : mCd k l y ws rm ad N g H.size (.ref (ad i) :: As) post) (cw : CallW R (s.setDrawn d0) args own C index y bytes maxL ret ws rm 0 0 n) {ci : Nat} {fs : List Value} {T : u_T} {N' : Nat} (hi : i < N) (he : g i = .inr (ci, fs)) (hc : vwCl[ci]? = some (C, T, N'))
    (hn : As.length = n) (hsize : ls.size = nL) (hst : st0 = As.reverse ++ .ref (ad i) :: rest) (hW : (rest.map fun v => v.category).sum ≤ 8) (hdg : decode cc pc = .ok (.invokevirtual index, 3)) (hf : cells ≤ R.cells ∧ slots ≤ R.slots)
    (kk : ∀ (r : UInt64) (g : Nat → va_E) (H : Heap) (locs : List Loc), post r g → mI k ad N g A s H locs → ∀ d' : Drawn, s.drawn.sameBut d' lw_cs → W p l e R (s.setDrawn d') m args below meth c H locs cells slots Q (F0 m (pc + 3) ls (.double r :: rest))) : W p l e R (s.setDrawn d0) m args below meth c H locs cells slots Q (F0 m pc ls st0) :=
  va_calldD hd0 (va_runV_D (As := As) (rest := rest) hfix hM cw (m_preV hE hI hi he hc) rfl hn hsize hst (lv_room hW) hdg hf) hI.2 (fun q _ h => mA_sub hE hI q h) (mA_sub hE hI) (fun r g' t H1 locs1 ht hvm hp hB hz hk hS d' hd' => kk r g' H1 locs1 hp ⟨by rw [← ht]; exact hB, hS⟩ d' hd')
end MD

set_option maxHeartbeats 8000000 in
set_option maxRecDepth 100000 in
theorem c_X3_mean (k : mC) (l : Launch) (ad : Nat → Nat) (N : Nat) (g : Nat → va_E) (sz : Nat) (uns : Bool) (play rd n : Nat) (lat : Nat → Int32) (gar T : Nat → Nat) (came : Nat) (mis lost bel : Int32) (fig : Bool) (fi u : Nat) (z : Nat → Nat) (F : Nat → Nat → Nat) (r : Nat → Option Nat) (hN : 50 ≤ N) (hW : CW play rd n lat gar T) (hwf : cWf (fi, u, z, F)) (hcame : came < 2000000000) (hC : CR k ad g uns play rd n lat gar T (came, mis, lost, bel, fig, fi, u, z, F) r) : mCd k l yX3_mean wsX3_mean { frames := 2, cells := 0, slots := 0, locals := 45 } ad N g sz [.ref (ad 0)] (fun r1 g1 => alike64 r1 (FP.ddiv (FP.i2d (nI (sumz z fi u))) (FP.i2d (nI u))) = true ∧ g1 = g) := by
  refine mOfD (cc := cX3_mean) (maxL := 2) (ret := (some .double)) (by decide) rfl (Nat.le_of_ble_eq_true rfl) ?_
  intro p e s m below meth c hx hb hr hts9 hown hlocks hml hd0 hE9 hI ls hl
  have hts := hts9 s.drawn
  have hE := hE9 s.drawn
  have hl : lv_has ls 2 [(0, .ref (ad 0))] := hl
  have h0 : g 0 = .inr (3, [.ref (ad 1), .ref (ad 6), .ref (ad 48), .int (nI rd), .int (bI fig), .int (bI uns), .int (nI came), .int mis, .int lost, .int bel]) := hC.1
  have hWi : CWi k ad g play lat gar := hC.2.1
  have hSh : CSh k ad g fi u z F r := hC.2.2.1
  have h48 : g 48 = .inr (0, [.ref (ad 49), .int (nI n)]) := hC.2.2.2.1
  have h49 : g 49 = .inl (k.2.1.1, 120, .inl (fun j => nI (T j))) := hC.2.2.2.2
  have hr48 : CRow k ad g 48 120 n (fun j => nI (T j)) := ⟨h48, h49⟩
  have h1 := hWi.1
  have h6 : g 6 = .inr (1, [.ref (ad 7), .int (nI fi), .int (nI u)]) := hSh.1
  obtain ⟨hplay, hrd, hn, hgar, hT, hlat⟩ := id hW
  have hfi : fi < 20 := hwf.1
  have hu0 : 0 < u := hwf.2.1
  have hu : u ≤ 20 := hwf.2.2
  refine lv_aload_n hx hb dX3_mean_0 rfl (lv_at hl 0 rfl) ?_
  refine m_get (ci := 3) (C := RX3) (T := TX3) (N' := 10) hx hb hts (by decide +kernel) hown hE hI 0 (by omega) h0 rfl 1 (by decide) (hts (.fieldLink RX3 19 "TapePrinter" "sheet" "LTapePrinter$Sheet;") (by decide +kernel)) rfl dX3_mean_1 ?_
  refine m_callVi (As := []) (rest := []) ⟨hx, hb, hml, hown, hts⟩ hE hI (c_X1_lines k l ad N g _ fi u z F r  (by omega) (by omega) (by omega) (by omega) hSh ) (cwV 0 hts gX3_mean_X1_lines rfl rfl rfl (by decide +kernel) ⟨Nat.le_of_ble_eq_true rfl, Nat.le_of_ble_eq_true rfl⟩) (i := 6) (by omega) h6 rfl rfl hl.1 rfl (Nat.le_of_ble_eq_true rfl) dX3_mean_4 ⟨Nat.le_of_ble_eq_true rfl, Nat.le_of_ble_eq_true rfl⟩ (m_deti (fun H locs hI => ?_))
  refine lv_istore_n (lv' := [(1, .int (nI u)), (0, .ref (ad 0))]) hx hb dX3_mean_7 rfl hl (by decide) rfl (fun ls hl => ?_)
  refine lv_iload_n hx hb dX3_mean_8 rfl (lv_at hl 0 rfl) ?_
  refine lv_iconst (v := nI 1) hx hb dX3_mean_9 (by decide) ?_
  refine m_cgeN (tgt := 17) hx hb (by omega) (by omega) dX3_mean_10 (by decide) (fun c_10 => ?_) (fun c_10 => ?_)
  · refine lv_aload_n hx hb dX3_mean_17 rfl (lv_at hl 1 rfl) ?_
    refine m_get (ci := 3) (C := RX3) (T := TX3) (N' := 10) hx hb hts (by decide +kernel) hown hE hI 0 (by omega) h0 rfl 1 (by decide) (hts (.fieldLink RX3 19 "TapePrinter" "sheet" "LTapePrinter$Sheet;") (by decide +kernel)) rfl dX3_mean_18 ?_
    refine m_callVi (As := []) (rest := []) ⟨hx, hb, hml, hown, hts⟩ hE hI (c_X1_characters k l ad N g _ fi u z F r  (by omega) (by omega) (by omega) (by omega) hSh ) (cwV 0 hts gX3_mean_X1_characters rfl rfl rfl (by decide +kernel) ⟨Nat.le_of_ble_eq_true rfl, Nat.le_of_ble_eq_true rfl⟩) (i := 6) (by omega) h6 rfl rfl hl.1 rfl (Nat.le_of_ble_eq_true rfl) dX3_mean_21 ⟨Nat.le_of_ble_eq_true rfl, Nat.le_of_ble_eq_true rfl⟩ (m_deti (fun H locs hI => ?_))
    refine lv_i2d hx hb dX3_mean_24 ?_
    refine lv_iload_n hx hb dX3_mean_25 rfl (lv_at hl 0 rfl) ?_
    refine lv_i2d hx hb dX3_mean_26 ?_
    refine lv_ddiv_any hd0 lw_bits hx hb dX3_mean_27 (fun r9 d1 hal hd1 => ?_)
    exact m_dret hx hb hr hlocks hd1 hI (post := fun r1 g1 => alike64 r1 (FP.ddiv (FP.i2d (nI (sumz z fi u))) (FP.i2d (nI u))) = true ∧ g1 = g) ⟨hal, rfl⟩ dX3_mean_28
  · exact absurd c_10 (by omega)
end
