section
-- ===== PART A: goes FIRST, ahead of the names: the tables' words, and 'selects' of the private methods out of them =====
/-- a private method of a class that the tables say can be made, by its rows of tables_1 -/
def lw_okq (q : MethodName × Nat) : Prop := (q.1.cls ≠ "java/lang/invoke/MethodHandle" ∧ q.1.cls ≠ "java/lang/invoke/VarHandle") ∧ Cond.instantiable q.1.cls q.2 ∈ tables_1 ∧ Cond.privateMethod q.1 ∈ tables_1 ∧ Cond.instanceMethod q.1 ∈ tables_1
theorem lw_p0 : lw_okq (⟨"TapePrinter", "figuresBehind", "(IZ)Z"⟩, 10) := ⟨⟨by decide +kernel, by decide +kernel⟩, List.mem_of_getElem? (i := 16) (by decide +kernel), List.mem_of_getElem? (i := 139) (by decide +kernel), List.mem_of_getElem? (i := 140) (by decide +kernel)⟩
theorem lw_p1 : lw_okq (⟨"TapePrinter", "shiftsToLetters", "(I)Z"⟩, 10) := ⟨⟨by decide +kernel, by decide +kernel⟩, List.mem_of_getElem? (i := 16) (by decide +kernel), List.mem_of_getElem? (i := 143) (by decide +kernel), List.mem_of_getElem? (i := 144) (by decide +kernel)⟩
theorem lw_p2 : lw_okq (⟨"TapePrinter", "servesBehind", "(I)Z"⟩, 10) := ⟨⟨by decide +kernel, by decide +kernel⟩, List.mem_of_getElem? (i := 16) (by decide +kernel), List.mem_of_getElem? (i := 150) (by decide +kernel), List.mem_of_getElem? (i := 151) (by decide +kernel)⟩
theorem lw_p3 : lw_okq (⟨"TapePrinter", "counted", "(I)I"⟩, 10) := ⟨⟨by decide +kernel, by decide +kernel⟩, List.mem_of_getElem? (i := 16) (by decide +kernel), List.mem_of_getElem? (i := 184) (by decide +kernel), List.mem_of_getElem? (i := 185) (by decide +kernel)⟩
theorem lw_p4 : lw_okq (⟨"java/lang/Throwable", "fillInStackTrace", "(I)Ljava/lang/Throwable;"⟩, 6) := ⟨⟨by decide +kernel, by decide +kernel⟩, List.mem_of_getElem? (i := 257) (by decide +kernel), List.mem_of_getElem? (i := 255) (by decide +kernel), List.mem_of_getElem? (i := 256) (by decide +kernel)⟩
theorem lw_p5 : lw_okq (⟨"TapePrinter", "takeIn", "(I)I"⟩, 10) := ⟨⟨by decide +kernel, by decide +kernel⟩, List.mem_of_getElem? (i := 16) (by decide +kernel), List.mem_of_getElem? (i := 379) (by decide +kernel), List.mem_of_getElem? (i := 380) (by decide +kernel)⟩
theorem lw_p6 : lw_okq (⟨"TapePrinter", "obey", "(I)V"⟩, 10) := ⟨⟨by decide +kernel, by decide +kernel⟩, List.mem_of_getElem? (i := 16) (by decide +kernel), List.mem_of_getElem? (i := 383) (by decide +kernel), List.mem_of_getElem? (i := 384) (by decide +kernel)⟩
theorem lw_p7 : lw_okq (⟨"TapePrinter", "figuresAtEnd", "()Z"⟩, 10) := ⟨⟨by decide +kernel, by decide +kernel⟩, List.mem_of_getElem? (i := 16) (by decide +kernel), List.mem_of_getElem? (i := 439) (by decide +kernel), List.mem_of_getElem? (i := 440) (by decide +kernel)⟩
theorem lw_p8 : lw_okq (⟨"TapePrinter", "figuresAhead", "(I)Z"⟩, 10) := ⟨⟨by decide +kernel, by decide +kernel⟩, List.mem_of_getElem? (i := 16) (by decide +kernel), List.mem_of_getElem? (i := 443) (by decide +kernel), List.mem_of_getElem? (i := 444) (by decide +kernel)⟩
theorem lw_p9 : lw_okq (⟨"TapePrinterModel", "fail", "(I)I"⟩, 16) := ⟨⟨by decide +kernel, by decide +kernel⟩, List.mem_of_getElem? (i := 521) (by decide +kernel), List.mem_of_getElem? (i := 596) (by decide +kernel), List.mem_of_getElem? (i := 597) (by decide +kernel)⟩
theorem lw_p10 : lw_okq (⟨"TapePrinterModel", "come", "(I)I"⟩, 16) := ⟨⟨by decide +kernel, by decide +kernel⟩, List.mem_of_getElem? (i := 521) (by decide +kernel), List.mem_of_getElem? (i := 637) (by decide +kernel), List.mem_of_getElem? (i := 638) (by decide +kernel)⟩
theorem lw_p11 : lw_okq (⟨"TapePrinterModel", "read", "(II)I"⟩, 16) := ⟨⟨by decide +kernel, by decide +kernel⟩, List.mem_of_getElem? (i := 521) (by decide +kernel), List.mem_of_getElem? (i := 641) (by decide +kernel), List.mem_of_getElem? (i := 642) (by decide +kernel)⟩
theorem lw_p12 : lw_okq (⟨"TapePrinterModel", "print", "(I)V"⟩, 16) := ⟨⟨by decide +kernel, by decide +kernel⟩, List.mem_of_getElem? (i := 521) (by decide +kernel), List.mem_of_getElem? (i := 645) (by decide +kernel), List.mem_of_getElem? (i := 646) (by decide +kernel)⟩
theorem lw_p13 : lw_okq (⟨"TapePrinterModel", "feed", "()V"⟩, 16) := ⟨⟨by decide +kernel, by decide +kernel⟩, List.mem_of_getElem? (i := 521) (by decide +kernel), List.mem_of_getElem? (i := 649) (by decide +kernel), List.mem_of_getElem? (i := 650) (by decide +kernel)⟩
theorem lw_p14 : lw_okq (⟨"TapePrinterModel", "set", "(I)V"⟩, 16) := ⟨⟨by decide +kernel, by decide +kernel⟩, List.mem_of_getElem? (i := 521) (by decide +kernel), List.mem_of_getElem? (i := 656) (by decide +kernel), List.mem_of_getElem? (i := 657) (by decide +kernel)⟩
theorem lw_p15 : lw_okq (⟨"TapePrinterModel", "shift", "(ZI)Z"⟩, 16) := ⟨⟨by decide +kernel, by decide +kernel⟩, List.mem_of_getElem? (i := 521) (by decide +kernel), List.mem_of_getElem? (i := 660) (by decide +kernel), List.mem_of_getElem? (i := 661) (by decide +kernel)⟩
def lw_privs_1 : List (MethodName × Nat) := [(⟨"TapePrinter", "figuresBehind", "(IZ)Z"⟩, 10), (⟨"TapePrinter", "shiftsToLetters", "(I)Z"⟩, 10), (⟨"TapePrinter", "servesBehind", "(I)Z"⟩, 10), (⟨"TapePrinter", "counted", "(I)I"⟩, 10), (⟨"java/lang/Throwable", "fillInStackTrace", "(I)Ljava/lang/Throwable;"⟩, 6), (⟨"TapePrinter", "takeIn", "(I)I"⟩, 10), (⟨"TapePrinter", "obey", "(I)V"⟩, 10), (⟨"TapePrinter", "figuresAtEnd", "()Z"⟩, 10), (⟨"TapePrinter", "figuresAhead", "(I)Z"⟩, 10), (⟨"TapePrinterModel", "fail", "(I)I"⟩, 16), (⟨"TapePrinterModel", "come", "(I)I"⟩, 16), (⟨"TapePrinterModel", "read", "(II)I"⟩, 16), (⟨"TapePrinterModel", "print", "(I)V"⟩, 16), (⟨"TapePrinterModel", "feed", "()V"⟩, 16), (⟨"TapePrinterModel", "set", "(I)V"⟩, 16), (⟨"TapePrinterModel", "shift", "(ZI)Z"⟩, 16)]
theorem lw_r1 : ∀ q ∈ lw_privs_1, lw_okq q := List.forall_mem_cons.mpr ⟨lw_p0, List.forall_mem_cons.mpr ⟨lw_p1, List.forall_mem_cons.mpr ⟨lw_p2, List.forall_mem_cons.mpr ⟨lw_p3, List.forall_mem_cons.mpr ⟨lw_p4, List.forall_mem_cons.mpr ⟨lw_p5, List.forall_mem_cons.mpr ⟨lw_p6, List.forall_mem_cons.mpr ⟨lw_p7, List.forall_mem_cons.mpr ⟨lw_p8, List.forall_mem_cons.mpr ⟨lw_p9, List.forall_mem_cons.mpr ⟨lw_p10, List.forall_mem_cons.mpr ⟨lw_p11, List.forall_mem_cons.mpr ⟨lw_p12, List.forall_mem_cons.mpr ⟨lw_p13, List.forall_mem_cons.mpr ⟨lw_p14, List.forall_mem_cons.mpr ⟨lw_p15, fun _ h => absurd h List.not_mem_nil⟩⟩⟩⟩⟩⟩⟩⟩⟩⟩⟩⟩⟩⟩⟩⟩
theorem lw_p16 : lw_okq (⟨"TapePrinterModel", "put", "(I)V"⟩, 16) := ⟨⟨by decide +kernel, by decide +kernel⟩, List.mem_of_getElem? (i := 521) (by decide +kernel), List.mem_of_getElem? (i := 668) (by decide +kernel), List.mem_of_getElem? (i := 669) (by decide +kernel)⟩
theorem lw_p17 : lw_okq (⟨"TapePrinterModel", "shiftAt", "(I)Z"⟩, 16) := ⟨⟨by decide +kernel, by decide +kernel⟩, List.mem_of_getElem? (i := 521) (by decide +kernel), List.mem_of_getElem? (i := 676) (by decide +kernel), List.mem_of_getElem? (i := 677) (by decide +kernel)⟩
theorem lw_p18 : lw_okq (⟨"TapePrinterModel", "isPlace", "(I)Z"⟩, 16) := ⟨⟨by decide +kernel, by decide +kernel⟩, List.mem_of_getElem? (i := 521) (by decide +kernel), List.mem_of_getElem? (i := 684) (by decide +kernel), List.mem_of_getElem? (i := 685) (by decide +kernel)⟩
theorem lw_p19 : lw_okq (⟨"TapePrinterModel", "isLine", "(I)Z"⟩, 16) := ⟨⟨by decide +kernel, by decide +kernel⟩, List.mem_of_getElem? (i := 521) (by decide +kernel), List.mem_of_getElem? (i := 705) (by decide +kernel), List.mem_of_getElem? (i := 706) (by decide +kernel)⟩
theorem lw_p20 : lw_okq (⟨"TapePrinterModel", "counted", "(I)I"⟩, 16) := ⟨⟨by decide +kernel, by decide +kernel⟩, List.mem_of_getElem? (i := 521) (by decide +kernel), List.mem_of_getElem? (i := 717) (by decide +kernel), List.mem_of_getElem? (i := 718) (by decide +kernel)⟩
theorem lw_p21 : lw_okq (⟨"TapePrinterModel", "isIdle", "(I)Z"⟩, 16) := ⟨⟨by decide +kernel, by decide +kernel⟩, List.mem_of_getElem? (i := 521) (by decide +kernel), List.mem_of_getElem? (i := 733) (by decide +kernel), List.mem_of_getElem? (i := 734) (by decide +kernel)⟩
theorem lw_p22 : lw_okq (⟨"TapePrinterModel", "isShift", "(I)Z"⟩, 16) := ⟨⟨by decide +kernel, by decide +kernel⟩, List.mem_of_getElem? (i := 521) (by decide +kernel), List.mem_of_getElem? (i := 737) (by decide +kernel), List.mem_of_getElem? (i := 738) (by decide +kernel)⟩
def lw_privs_2 : List (MethodName × Nat) := [(⟨"TapePrinterModel", "put", "(I)V"⟩, 16), (⟨"TapePrinterModel", "shiftAt", "(I)Z"⟩, 16), (⟨"TapePrinterModel", "isPlace", "(I)Z"⟩, 16), (⟨"TapePrinterModel", "isLine", "(I)Z"⟩, 16), (⟨"TapePrinterModel", "counted", "(I)I"⟩, 16), (⟨"TapePrinterModel", "isIdle", "(I)Z"⟩, 16), (⟨"TapePrinterModel", "isShift", "(I)Z"⟩, 16)]
theorem lw_r2 : ∀ q ∈ lw_privs_2, lw_okq q := List.forall_mem_cons.mpr ⟨lw_p16, List.forall_mem_cons.mpr ⟨lw_p17, List.forall_mem_cons.mpr ⟨lw_p18, List.forall_mem_cons.mpr ⟨lw_p19, List.forall_mem_cons.mpr ⟨lw_p20, List.forall_mem_cons.mpr ⟨lw_p21, List.forall_mem_cons.mpr ⟨lw_p22, fun _ h => absurd h List.not_mem_nil⟩⟩⟩⟩⟩⟩⟩
def lw_privs : List (MethodName × Nat) := lw_privs_1 ++ (lw_privs_2)
def lw_tbl : List Cond := k2_sels lw_privs ++ tables_1
theorem lw_privs_ok : ∀ q ∈ lw_privs, lw_okq q := by
  show ∀ q ∈ lw_privs_1 ++ (lw_privs_2), lw_okq q
  exact List.forall_mem_append.mpr ⟨lw_r1, lw_r2⟩
/-- the streams that the claim lets the run draw from -/
abbrev lw_cs : List Choice := [Jvm.Choice.named "NaN.bits"]
theorem lw_bits : nanBits ∈ lw_cs := by first | decide | exact List.mem_cons_self | simp [lw_cs, nanBits]
end
section
/-! ===== BEGIN words of one list among another's, by their places ===== -/
theorem goodIn_r {big : List Cond} (ws : List Cond) (ps : List Nat) (hp : ws = ps.filterMap (fun i => big[i]?)) (h : ws.all goodWord = true) : GoodIn big ws := by
  intro w hw
  have h1 := List.all_eq_true.mp h w hw
  rw [hp] at hw
  obtain ⟨i, -, hi⟩ := List.mem_filterMap.mp hw
  have hm : w ∈ big := by first | exact List.mem_of_getElem? hi | exact List.getElem?_mem hi
  exact ⟨hm, good_of_word h1⟩
theorem goodIn_app {big a b : List Cond} (ha : GoodIn big a) (hb : GoodIn big b) : GoodIn big (a ++ b) := fun w h => (List.mem_append.mp h).elim (ha w) (hb w)
theorem goodIn_ca {big a b : List Cond} {c : Cond} (ha : GoodIn big (c :: a)) (hb : GoodIn big b) : GoodIn big (c :: (a ++ b)) := fun w h => (List.mem_cons.mp h).elim (fun e => ha w (List.mem_cons.mpr (Or.inl e))) (fun h => (List.mem_append.mp h).elim (fun h => ha w (List.mem_cons.mpr (Or.inr h))) (hb w))
theorem goodIn_sub {big ws : List Cond} (hm : ∀ w ∈ ws, w ∈ big) (h : ws.all goodWord = true) : GoodIn big ws := fun w hw => ⟨hm w hw, good_of_word (List.all_eq_true.mp h w hw)⟩
/-! ===== END ===== -/

/-! ===== BEGIN exceptions that leave a method, and their catching by the caller (launches without stack traces) ===== -/
section VXA
/-! The laws vx_back, vx_callV, vx_callS, vx_callSW, vx_throw0, vx_throwS follow proofs of the library, with one case more: JvmDerived/Free/Laws.lean (Back.of_free), Shelf42/LK1.lean (callV, callS), Shelf/KitTraced.lean (throwNew0V, throwNewS). -/
/-- where a method has thrown q: the class by its name, the cell, what was written, the world -/
def vx_T (XC : String → State → State → Prop) (st : State) (q : Addr) (t : State) (mc ms : Nat) (free : Addr → Prop) : Prop :=
  ∃ (E : String) (ce : Cell) (L : List Loc), XC E st t ∧ t.heap[q]? = some ce ∧ ce.vm = .none ∧ st.vm.findClass E = some ce.cls ∧ st.WarmedH t.vm ∧ st.sameButNew ({ t with vm := st.vm } : State) L mc ms ∧ ∀ z ∈ L, free z.base
def vx_Q (Qc : Array Value → State → Outcome → State → Prop) (XC : String → State → State → Prop) (mc ms : Nat) (free : Addr → Prop) : Array Value → State → Outcome → State → Prop := fun a st o t =>
  (Qc a st o t ∧ ∃ L, FrameEnd st o t L mc ms ∧ ∀ q ∈ L, free q.base) ∨ ∃ q, o = .threw q ∧ vx_T XC st q t mc ms free
/-- a callee that returns or throws -/
def vx_Met (l : Launch) (y : MethodName) (ws : List Cond) (rm : Room) (Pc : Array Value → State → Prop) (Qc : Array Value → State → Outcome → State → Prop) (XC : String → State → State → Prop) (mc ms : Nat) (free : Addr → Prop) : Prop :=
  MetFree l y (headSpec ws rm) Pc (fun _ _ _ _ _ => True) (vx_Q Qc XC mc ms free)
def vx_Post (XC : String → State → State → Prop) (mc ms : Nat) (free : Addr → Prop) : Pt → Array Value → Addr → Pt → Prop := fun A a q B =>
  ∃ (g : JFrame) (mk : MethodId) (t : State) (L : List Loc) (E : String) (ce : Cell), B.U.heap = t.heap ∧ B.U.vm = t.vm ∧ XC E (A.U.calling g mk a) t ∧ t.heap[q]? = some ce ∧ ce.vm = .none ∧ A.U.vm.findClass E = some ce.cls ∧ B.locs = A.locs ++ L ∧ (∀ z ∈ L, free z.base) ∧ B.cells = A.cells + mc ∧ B.slots = A.slots + ms
def vx_Back (l : Launch) (R : Room) (p : Program) (e : Env) (below : List Frame) (s : State) (sargs : Array Value) (y : MethodName) (len W9 : Nat)
    (Pre : Pt → Array Value → Prop) (Post : Pt → Array Value → Option Value → Pt → Prop) (PostX : Pt → Array Value → Addr → Pt → Prop) : Prop :=
  ∀ (m : MethodId) (meth : Method) (c : Code) (A : Pt) (g : JFrame) (ig : Instr) (mk : MethodId) (a : Array Value),
    Stand p l e R s m sargs below meth c A.U A.locs A.cells A.slots → g.method = m → g.locals.size = c.maxLocals → decode c.code g.pc = .ok (ig, len) →
    2 * g.monitorRoom + (g.stack.map fun v => v.category).sum ≤ W9 → A.U.methodNamed? y = some mk → Pre A a →
    (∃ (v : Option Value) (B : Pt), Stand p l e R s m sargs below meth c B.U B.locs B.cells B.slots ∧ Post A a v B ∧
      Steps p.tables e below (doInvoke e (A.U.setTop g) [] mk a).1 (B.U.setTop { g with pc := g.pc + len, stack := v.toList ++ g.stack })) ∨
    (∃ (q : Addr) (B : Pt), Stand p l e R s m sargs below meth c B.U B.locs B.cells B.slots ∧ PostX A a q B ∧
      Steps p.tables e below (doInvoke e (A.U.setTop g) [] mk a).1 ((B.U.setTop g).pushFrame (.throwing q)))
section Payer
variable {l : Launch} {R : Room} {p : Program} {e : Env} {below : List Frame} {s : State} {sargs : Array Value} {y : MethodName} {len W9 : Nat}
theorem vx_back {ws : List Cond} {rm : Room} {Pc : Array Value → State → Prop} {Qc : Array Value → State → Outcome → State → Prop} {XC : String → State → State → Prop} {mc ms : Nat} {free : Addr → Prop} {bytes : ByteArray} {maxL : Nat} {ret : Option FieldType}
    (hM : vx_Met l y ws rm Pc Qc XC mc ms free) (hblind : FrameBlind Pc) (hrc : rm.cells = mc) (hrs : rm.slots = ms)
    (hframes : rm.frames + 1 ≤ R.frames) (hlocals : W9 + (maxL + 11) + rm.locals ≤ R.locals)
    (hws : ∀ w ∈ ws, ∀ a' U, s.WarmedH U.vm → w.before a' U = true) (hcode : Cond.code y bytes maxL ret ∈ ws) (hinit : ∀ a' U, s.WarmedH U.vm → (Cond.initialized y.cls).before a' U = true) :
    vx_Back l R p e below s sargs y len W9 (PreOf R mc ms Pc) (PostOf Qc mc ms free) (vx_Post XC mc ms free) := by
  intro m meth c A g ig mk a X hg hsize hdg hW hn hp
  have h1 : (headSpec ws rm).pre.before a A.U = true := atoms_intro fun w hw => hws w hw _ _ X.warmed
  have h2 : (Cond.code y bytes maxL ret).before a A.U = true := hws _ hcode _ _ X.warmed
  have h3 : (Cond.initialized y.cls).before a A.U = true := hinit _ _ X.warmed
  have h4 : A.cells + (headSpec ws rm).room.cells ≤ R.cells := by rw [show (headSpec ws rm).room.cells = mc from hrc]; exact hp.1
  have h5 : A.slots + (headSpec ws rm).room.slots ≤ R.slots := by rw [show (headSpec ws rm).room.slots = ms from hrs]; exact hp.2.1
  have hPc : Pc a (A.U.calling g mk a) := hblind _ _ _ _ hp.2.2
  obtain ⟨U, Ls, c0, s0⟩ := A
  dsimp only [Pt.U, Pt.locs, Pt.cells, Pt.slots] at h1 h2 h3 h4 h5 X hn hPc ⊢
  obtain ⟨methY, cY, hmY, hcY, -, hlY, -, -, -, -⟩ := Cond.code_spec hn h2
  obtain ⟨kY, hkY, -⟩ := className_of_methodNamed hn
  have hinitY : kY.init = .initialized := Cond.initialized_spec (findClass_of_methodNamed hn) hkY h3
  have h : At U g.method c below := by rw [hg]; exact X.here
  have hlocals9 : W9 + (maxL + 11) + (headSpec ws rm).room.locals ≤ R.locals := hlocals
  have happ : (headSpec ws rm).appliesLoose y e.platform (U.calling g mk a) = true :=
    Spec.appliesLoose_calling (g := g) h hdg hn hkY hinitY
      (X.room_calling (g := g) (R' := (headSpec ws rm).room) hsize hmY hcY hframes (by rw [hlY]; omega) h4 h5) h1
  obtain ⟨mid, hmid⟩ := h.above
  have hfr : (U.setTop g).frames = (.java g :: mid) ++ below := by rw [State.frames_setTop' g h.top, hmid]; rfl
  obtain ⟨o, s₂, hsteps, -, hend, hq⟩ := Steps.callFree hM p X.admits X.cas X.clock (acts := []) hfr happ hPc trivial
  have hq' : vx_Q Qc XC mc ms free a (U.calling g mk a) o s₂ := hq
  rw [State.frames_setTop' g h.top] at hend
  obtain ⟨g₀, hg0⟩ := Option.isSome_iff_exists.mp h.top
  obtain ⟨r, hr⟩ := State.topJava?_eq_some.mp hg0
  have hr' : (({ U with heap := s₂.heap, slotsUsed := s₂.slotsUsed } : State).setVm s₂.vm).frames = .java g₀ :: r := hr
  rcases hq' with ⟨hqc, L, hfe, hL⟩ | ⟨q, rfl, E, ce, L, hx, hce, hcv, hcl, hW₂, hsm, hL⟩
  · obtain ⟨⟨v, rfl⟩, hW₂, e2, q2, q3, q4, q5, q6⟩ := id hfe
    have e3 : s₂ = ({ (U.calling g mk a).setFrames s₂.frames with heap := s₂.heap, slotsUsed := s₂.slotsUsed } : State).setVm s₂.vm := by
      have : s₂ = ({ s₂ with vm := (U.calling g mk a).vm } : State).setVm s₂.vm := rfl
      rw [e2] at this
      exact this
    obtain ⟨c₂, i₂, len₂, hc₂, hd₂, hf₂⟩ := hend
    have hW' : U.WarmedH s₂.vm := hW₂
    have hcc : c₂ = c := by
      have h1 : s₂.code? g.method = U.code? g.method := by
        rw [State.code?_eq, State.code?_eq, hW'.alike.method?]
      exact Option.some.inj (hc₂.symm.trans (h1.trans h.code))
    subst hcc
    have hlen : len₂ = len := by rw [hdg] at hd₂; cases hd₂; rfl
    subst hlen
    have hs₂ : s₂ = (({ U with heap := s₂.heap, slotsUsed := s₂.slotsUsed } : State).setVm s₂.vm).setTop { g with pc := g.pc + len₂, stack := v.toList ++ g.stack } := by
      refine e3.trans ?_
      rw [hf₂, State.calling_eq h.top, State.setFrames_setFrames, State.setTop_of_frames _ hr', hr]
      rfl
    have hsame : U.sameButNew ({ U with heap := s₂.heap, slotsUsed := s₂.slotsUsed } : State) L mc ms := by
      refine ⟨?_, q2, q3, q4, q5, q6⟩
      obtain ⟨t, ht, -⟩ := State.frames_cons hr
      show ({ U with heap := s₂.heap, slotsUsed := s₂.slotsUsed } : State) = { U.setFrames U.frames with heap := s₂.heap, slotsUsed := s₂.slotsUsed }
      rw [State.setFrames_self ht]
    subst hg
    refine Or.inl ⟨v, ⟨(({ U with heap := s₂.heap, slotsUsed := s₂.slotsUsed } : State).setVm s₂.vm), Ls ++ L, c0 + mc, s0 + ms⟩,
      ⟨X.admits, X.cas, X.clock, X.frames, X.room, X.hears, X.method, X.code, (X.here.setHeapUsed s₂.heap s₂.slotsUsed).setVm hW'.alike, X.tail, State.WarmedH.trans X.warmed hW', X.limits, X.bytes, X.same.trans (hsame.setVm s.vm)⟩,
      ⟨g, mk, s₂, L, rfl, rfl, hqc, rfl, hL, rfl, rfl⟩, ?_⟩
    show Steps p.tables e below _ ((({ U with heap := s₂.heap, slotsUsed := s₂.slotsUsed } : State).setVm s₂.vm).setTop { g with pc := g.pc + len₂, stack := v.toList ++ g.stack })
    rw [← hs₂]
    exact hsteps
  · obtain ⟨e2, q2, q3, q4, q5, q6⟩ := id hsm
    have e3 : s₂ = ({ (U.calling g mk a).setFrames s₂.frames with heap := s₂.heap, slotsUsed := s₂.slotsUsed } : State).setVm s₂.vm := by
      have : s₂ = ({ s₂ with vm := (U.calling g mk a).vm } : State).setVm s₂.vm := rfl
      rw [e2] at this
      exact this
    have hf₂ : s₂.frames = .throwing q :: .java g :: U.frames.tail := hend
    have hW' : U.WarmedH s₂.vm := hW₂
    have hs₂ : s₂ = ((({ U with heap := s₂.heap, slotsUsed := s₂.slotsUsed } : State).setVm s₂.vm).setTop g).pushFrame (.throwing q) := by
      refine e3.trans ?_
      rw [hf₂, State.calling_eq h.top, State.setFrames_setFrames, State.pushFrame, State.frames_setTop _ hr', State.setTop_of_frames _ hr', State.setFrames_setFrames, hr]
      rfl
    have hsame : U.sameButNew ({ U with heap := s₂.heap, slotsUsed := s₂.slotsUsed } : State) L mc ms := by
      refine ⟨?_, q2, q3, q4, q5, q6⟩
      obtain ⟨t, ht, -⟩ := State.frames_cons hr
      show ({ U with heap := s₂.heap, slotsUsed := s₂.slotsUsed } : State) = { U.setFrames U.frames with heap := s₂.heap, slotsUsed := s₂.slotsUsed }
      rw [State.setFrames_self ht]
    subst hg
    refine Or.inr ⟨q, ⟨(({ U with heap := s₂.heap, slotsUsed := s₂.slotsUsed } : State).setVm s₂.vm), Ls ++ L, c0 + mc, s0 + ms⟩,
      ⟨X.admits, X.cas, X.clock, X.frames, X.room, X.hears, X.method, X.code, (X.here.setHeapUsed s₂.heap s₂.slotsUsed).setVm hW'.alike, X.tail, State.WarmedH.trans X.warmed hW', X.limits, X.bytes, X.same.trans (hsame.setVm s.vm)⟩,
      ⟨g, mk, s₂, L, E, ce, rfl, rfl, hx, hce, hcv, hcl, rfl, hL, rfl, rfl⟩, ?_⟩
    show Steps p.tables e below _ (((({ U with heap := s₂.heap, slotsUsed := s₂.slotsUsed } : State).setVm s₂.vm).setTop g).pushFrame (.throwing q))
    rw [← hs₂]
    exact hsteps
end Payer
section Calls
variable {p : Program} {l : Launch} {e : Env} {R : Room} {s : State} {m : MethodId} {args : Array Value} {below : List Frame} {meth : Method} {c : Code} {T : State} {locs : List Loc} {cells slots : Nat}
theorem vx_callV (X : Stand p l e R s m args below meth c T locs cells slots) (hexec : p.tables.exec = Jvm.exec) {own C : String} {index : Nat} {y : MethodName} {bytes : ByteArray} {maxL : Nat} {ret : Option FieldType}
    (hown : s.vm.findClass own = some m.cls) (hlink : (Cond.methodLink own index y).before args s = true) (hinst : (Cond.instanceMethod y).before args s = true) (hsel : (Cond.selects C y y).before args s = true)
    (hcode : (Cond.code y bytes maxL ret).before args s = true) (hy : y.cls ≠ "java/lang/invoke/MethodHandle" ∧ y.cls ≠ "java/lang/invoke/VarHandle")
    {W9 : Nat} {Pre : Pt → Array Value → Prop} {Post : Pt → Array Value → Option Value → Pt → Prop} {PostX : Pt → Array Value → Addr → Pt → Prop} (hK : vx_Back l R p e below s args y 3 W9 Pre Post PostX)
    {b : Addr} {cellB : Cell} (hcell : T.heap[b]? = some cellB) (hobj : cellB.vm.isStatics = false) (hcls : s.vm.findClass C = some cellB.cls)
    {g : JFrame} (hg : g.method = m) (hsize : g.locals.size = c.maxLocals) {argsL rest : List Value} (hlen : ∀ sig, parseMethodDescriptor y.desc = some sig → argsL.length = sig.parameters.length)
    (hstack : g.stack = argsL.reverse ++ .ref b :: rest) (hW : 2 * g.monitorRoom + (rest.map fun v => v.category).sum ≤ W9) (hdg : decode c.code g.pc = .ok (.invokevirtual index, 3))
    (hpre : ∀ vm₁, s.WarmedH vm₁ → Pre ⟨T.setVm vm₁, locs, cells, slots⟩ (Value.ref b :: argsL).toArray) :
    (∃ (v : Option Value) (vm₁ : Vm) (B : Pt), s.WarmedH vm₁ ∧ Stand p l e R s m args below meth c B.U B.locs B.cells B.slots ∧ Post ⟨T.setVm vm₁, locs, cells, slots⟩ (Value.ref b :: argsL).toArray v B ∧
      ∀ target, Steps p.tables e below (B.U.setTop { g with pc := g.pc + 3, stack := v.toList ++ rest }) target → Steps p.tables e below (T.setTop g) target) ∨
    (∃ (q : Addr) (vm₁ : Vm) (B : Pt), s.WarmedH vm₁ ∧ Stand p l e R s m args below meth c B.U B.locs B.cells B.slots ∧ PostX ⟨T.setVm vm₁, locs, cells, slots⟩ (Value.ref b :: argsL).toArray q B ∧
      Steps p.tables e below (T.setTop g) ((B.U.setTop { g with stack := rest }).pushFrame (.throwing q))) := by
  obtain ⟨mk, methM, hnamed, hmethM, hstM, habM⟩ := Cond.instanceMethod_spec hinst
  obtain ⟨methM', cM, hmethM', -, -, -, -, -, -, hsigM⟩ := Cond.code_spec hnamed hcode
  cases hmethM.symm.trans hmethM'
  obtain ⟨c2, r2, m2, q1, q2, q3, q4, kP, hkP, hkPi⟩ := Cond.selects_spec hsel
  cases hcls.symm.trans q1
  cases (State.methodFound?_of_named hnamed hy).symm.trans q2
  cases hnamed.symm.trans q3
  have hselP : selectMethod e.platform s.vm cellB.cls mk = .method mk := by rw [Launch.admits_selectMethod X.admits]; exact q4
  obtain ⟨vm₁, X₁, hstep₁⟩ := X.invokevirtual hexec hown hlink hnamed hmethM hstM hkP hkPi hy (a := b) (cell := cellB) hcell
    (fun z h => by rw [h] at hobj; cases hobj) hselP hmethM habM hkP hkPi (g := g) hg (argsL := argsL) (rest := rest) (hlen _ hsigM) hstack hdg
  rcases hK m meth c ⟨T.setVm vm₁, locs, cells, slots⟩ { g with stack := rest } (.invokevirtual index) mk (Value.ref b :: argsL).toArray X₁ hg hsize hdg hW (X₁.named hnamed) (hpre vm₁ X₁.warmed) with ⟨v, B, X', hpost, hsteps⟩ | ⟨q, B, X', hpost, hsteps⟩
  · exact Or.inl ⟨v, vm₁, B, X₁.warmed, X', hpost, fun target h => hstep₁ _ fun acts => by rw [doInvoke_state]; exact hsteps.trans h⟩
  · exact Or.inr ⟨q, vm₁, B, X₁.warmed, X', hpost, hstep₁ _ fun acts => by rw [doInvoke_state]; exact hsteps⟩
theorem vx_callS (X : Stand p l e R s m args below meth c T locs cells slots) (hexec : p.tables.exec = Jvm.exec) {own : String} {index : Nat} {y : MethodName} {bytes : ByteArray} {maxL : Nat} {ret : Option FieldType}
    (hown : s.vm.findClass own = some m.cls) (hlink : (Cond.methodLink own index y).before args s = true) (hstat : (Cond.static y).before args s = true) (hinit : (Cond.initialized y.cls).before args s = true)
    (hcode : (Cond.code y bytes maxL ret).before args s = true) (hy : y.cls ≠ "java/lang/invoke/MethodHandle" ∧ y.cls ≠ "java/lang/invoke/VarHandle")
    {W9 : Nat} {Pre : Pt → Array Value → Prop} {Post : Pt → Array Value → Option Value → Pt → Prop} {PostX : Pt → Array Value → Addr → Pt → Prop} (hK : vx_Back l R p e below s args y 3 W9 Pre Post PostX)
    {g : JFrame} (hg : g.method = m) (hsize : g.locals.size = c.maxLocals) {argsL rest : List Value} (hlen : ∀ sig, parseMethodDescriptor y.desc = some sig → argsL.length = sig.parameters.length)
    (hstack : g.stack = argsL.reverse ++ rest) (hW : 2 * g.monitorRoom + (rest.map fun v => v.category).sum ≤ W9) (hdg : decode c.code g.pc = .ok (.invokestatic index, 3))
    (hpre : ∀ vm₁, s.WarmedH vm₁ → Pre ⟨T.setVm vm₁, locs, cells, slots⟩ argsL.toArray) :
    (∃ (v : Option Value) (vm₁ : Vm) (B : Pt), s.WarmedH vm₁ ∧ Stand p l e R s m args below meth c B.U B.locs B.cells B.slots ∧ Post ⟨T.setVm vm₁, locs, cells, slots⟩ argsL.toArray v B ∧
      ∀ target, Steps p.tables e below (B.U.setTop { g with pc := g.pc + 3, stack := v.toList ++ rest }) target → Steps p.tables e below (T.setTop g) target) ∨
    (∃ (q : Addr) (vm₁ : Vm) (B : Pt), s.WarmedH vm₁ ∧ Stand p l e R s m args below meth c B.U B.locs B.cells B.slots ∧ PostX ⟨T.setVm vm₁, locs, cells, slots⟩ argsL.toArray q B ∧
      Steps p.tables e below (T.setTop g) ((B.U.setTop { g with stack := rest }).pushFrame (.throwing q))) := by
  obtain ⟨mk, hnamed⟩ := Cond.code_named hcode
  obtain ⟨methM, cM, hmethM, -, -, -, -, -, -, hsigM⟩ := Cond.code_spec hnamed hcode
  have hstatic : methM.isStatic = true := Cond.static_spec hnamed hmethM hstat
  obtain ⟨kP, hkP, -⟩ := className_of_methodNamed hnamed
  have hinitP : kP.init = .initialized := Cond.initialized_spec (findClass_of_methodNamed hnamed) hkP hinit
  obtain ⟨vm₁, X₁, hstep₁⟩ := X.invokestatic hexec hown hlink hnamed hmethM hstatic hkP hinitP hy (g := g) hg (argsL := argsL) (rest := rest) (hlen _ hsigM) hstack hdg
  rcases hK m meth c ⟨T.setVm vm₁, locs, cells, slots⟩ { g with stack := rest } (.invokestatic index) mk argsL.toArray X₁ hg hsize hdg hW (X₁.named hnamed) (hpre vm₁ X₁.warmed) with ⟨v, B, X', hpost, hsteps⟩ | ⟨q, B, X', hpost, hsteps⟩
  · exact Or.inl ⟨v, vm₁, B, X₁.warmed, X', hpost, fun target h => hstep₁ _ fun acts => by rw [doInvoke_state]; exact hsteps.trans h⟩
  · exact Or.inr ⟨q, vm₁, B, X₁.warmed, X', hpost, hstep₁ _ fun acts => by rw [doInvoke_state]; exact hsteps⟩
end Calls
theorem vx_cls {s : State} {T : State} {vm₁ : Vm} {E : String} {k : ClassId} (hW : s.WarmedH vm₁) (h : (T.setVm vm₁).vm.findClass E = some k) : s.vm.findClass E = some k := by
  have h1 : vm₁.findClass E = some k := h
  rw [hW.alike.findClass] at h1
  exact h1
/-- the method's frame g, with q thrown over it -/
def vx_W (p : Program) (l : Launch) (e : Env) (R : Room) (s : State) (m : MethodId) (args : Array Value) (below : List Frame) (meth : Method) (c : Code) (H : Heap) (locs : List Loc) (cells slots : Nat) (Q : State → Prop) (g : JFrame) (q : Addr) : Prop :=
  ∀ T : State, T.heap = H → Stand p l e R s m args below meth c T locs cells slots → ∃ t, Steps p.tables e below ((T.setTop g).pushFrame (.throwing q)) t ∧ Q t
def vx_Run (p : Program) (l : Launch) (e : Env) (R : Room) (s : State) (m : MethodId) (args : Array Value) (below : List Frame) (meth : Method) (c : Code) (H : Heap) (locs : List Loc) (cells slots mc ms : Nat) (g : JFrame) (rest : List Value) (Qa : State → Outcome → State → Prop) (XC : String → State → State → Prop) (free : Addr → Prop) : Prop :=
  ∀ T : State, T.heap = H → Stand p l e R s m args below meth c T locs cells slots →
    (∃ (v : Option Value) (st₀ t T' : State) (L : List Loc), st₀.heap = H ∧ Stand p l e R s m args below meth c T' (locs ++ L) (cells + mc) (slots + ms) ∧ (∀ q ∈ L, free q.base) ∧ T'.heap = t.heap ∧ T'.vm = t.vm ∧ Qa st₀ (.returned v) t ∧
      Goes p e below T g T' { g with pc := g.pc + 3, stack := v.toList ++ rest }) ∨
    (∃ (q : Addr) (st₀ t T' : State) (L : List Loc) (E : String) (ce : Cell), st₀.heap = H ∧ Stand p l e R s m args below meth c T' (locs ++ L) (cells + mc) (slots + ms) ∧ (∀ z ∈ L, free z.base) ∧ T'.heap = t.heap ∧ T'.vm = t.vm ∧ XC E st₀ t ∧ t.heap[q]? = some ce ∧ ce.vm = .none ∧ s.vm.findClass E = some ce.cls ∧
      Steps p.tables e below (T.setTop g) ((T'.setTop { g with stack := rest }).pushFrame (.throwing q)))
def vx_X {S : Type} (px : S → Prop) (B : String → S → State → Prop) (A : Nat → Prop) : String → State → State → Prop := fun E st t => ∃ u : S, px u ∧ B E u t ∧ va_F A st t
section Runs
variable {p : Program} {l : Launch} {e : Env} {R : Room} {s : State} {m : MethodId} {args : Array Value} {below : List Frame} {meth : Method} {c : Code} {H : Heap} {locs : List Loc} {cells slots : Nat}
variable {y : MethodName} {bytes cc : ByteArray} {maxL nL mc ms n index : Nat} {ret : Option FieldType} {ws : List Cond} {rm : Room} {Pc : Array Value → State → Prop} {Qc : Array Value → State → Outcome → State → Prop} {XC : String → State → State → Prop} {free : Addr → Prop} {Ts : List Cond} {own C : String} {b : Addr} {As rest : List Value} {g : JFrame}
theorem vx_callBack (cb : CallB R s args own index y bytes maxL ret ws rm mc ms n) (hM : vx_Met l y ws rm Pc Qc XC mc ms free) (hbl : FrameBlind Pc) : vx_Back l R p e below s args y 3 8 (PreOf R mc ms Pc) (PostOf Qc mc ms free) (vx_Post XC mc ms free) := by
  obtain ⟨hrc, hrs, hfr, hlo, hws, hcw, -, hini, -⟩ := cb
  exact vx_back (bytes := bytes) (maxL := maxL) (ret := ret) hM hbl hrc hrs hfr hlo hws hcw (fun a' U hW => word_at hW (Or.inl (by first | rfl | simp [Cond.onTables, Cond.keeps, Cond.steady])) hini)
theorem vx_runV (S : CallFix p m c cc nL s args Ts own) (hM : vx_Met l y ws rm Pc Qc XC mc ms free) (cw : CallW R s args own C index y bytes maxL ret ws rm mc ms n) (hp : PreV s H C b Pc As)
    (hg : g.method = m) (hn : As.length = n) (hsize : g.locals.size = nL) (hstack : g.stack = As.reverse ++ .ref b :: rest) (hW : 2 * g.monitorRoom + (rest.map fun v => v.category).sum ≤ 8) (hdg : decode cc g.pc = .ok (.invokevirtual index, 3)) (hf : cells + mc ≤ R.cells ∧ slots + ms ≤ R.slots) :
    vx_Run p l e R s m args below meth c H locs cells slots mc ms g rest (Qc (Value.ref b :: As).toArray) XC free := by
  have hK : vx_Back l R p e below s args y 3 8 (PreOf R mc ms Pc) (PostOf Qc mc ms free) (vx_Post XC mc ms free) := vx_callBack cw.1 hM hp.1
  obtain ⟨⟨-, -, -, -, -, -, hcode, -, hy, hlen, hl⟩, hin, hse⟩ := cw
  obtain ⟨hx, hb, hml, ho, -⟩ := S
  obtain ⟨-, ⟨cellB, hcB, hoB, hclB⟩, hPc⟩ := hp
  intro T hT X
  rcases vx_callV X hx (C := C) (bytes := bytes) (maxL := maxL) (ret := ret) ho hl hin hse hcode hy hK (by rw [hT]; exact hcB) hoB hclB hg (hsize.trans hml.symm) (argsL := As) (rest := rest) (fun sig h => hn.trans (hlen sig h)) hstack hW (by rw [hb]; exact hdg)
    (fun vm₁ hW₁ => ⟨hf.1, hf.2, hPc (T.setVm vm₁) hT hW₁⟩) with ⟨v, vm₁, ⟨U', l2, c2, s2⟩, hW₁, X', ⟨g', mk, t, L, e1, e2, hq, h1, hL, h2, h3⟩, st⟩ | ⟨q, vm₁, ⟨U', l2, c2, s2⟩, hW₁, X', ⟨g', mk, t, L, E, ce, e1, e2, hq, hce, hcv, hcl, h1, hL, h2, h3⟩, st⟩
  · dsimp only [Pt.U, Pt.locs, Pt.cells, Pt.slots] at X' e1 e2 h1 h2 h3 st
    subst h1; subst h2; subst h3
    exact Or.inl ⟨v, (T.setVm vm₁).calling g' mk (Value.ref b :: As).toArray, t, U', L, hT, X', hL, e1, e2, hq, st⟩
  · dsimp only [Pt.U, Pt.locs, Pt.cells, Pt.slots] at X' e1 e2 h1 h2 h3 st hcl
    subst h1; subst h2; subst h3
    exact Or.inr ⟨q, (T.setVm vm₁).calling g' mk (Value.ref b :: As).toArray, t, U', L, E, ce, hT, X', hL, e1, e2, hq, hce, hcv, vx_cls hW₁ hcl, st⟩
theorem vx_runS (S : CallFix p m c cc nL s args Ts own) (hM : vx_Met l y ws rm Pc Qc XC mc ms free) (cw : CallB R s args own index y bytes maxL ret ws rm mc ms n ∧ (Cond.static y).before args s = true) (hp : PreS s H Pc As)
    (hg : g.method = m) (hn : As.length = n) (hsize : g.locals.size = nL) (hstack : g.stack = As.reverse ++ rest) (hW : 2 * g.monitorRoom + (rest.map fun v => v.category).sum ≤ 8) (hdg : decode cc g.pc = .ok (.invokestatic index, 3)) (hf : cells + mc ≤ R.cells ∧ slots + ms ≤ R.slots) :
    vx_Run p l e R s m args below meth c H locs cells slots mc ms g rest (Qc As.toArray) XC free := by
  have hK : vx_Back l R p e below s args y 3 8 (PreOf R mc ms Pc) (PostOf Qc mc ms free) (vx_Post XC mc ms free) := vx_callBack cw.1 hM hp.1
  obtain ⟨⟨-, -, -, -, -, -, hcode, hini, hy, hlen, hl⟩, hstt⟩ := cw
  obtain ⟨hx, hb, hml, ho, -⟩ := S
  intro T hT X
  rcases vx_callS X hx (bytes := bytes) (maxL := maxL) (ret := ret) ho hl hstt hini hcode hy hK hg (hsize.trans hml.symm) (argsL := As) (rest := rest) (fun sig h => hn.trans (hlen sig h)) hstack hW (by rw [hb]; exact hdg)
    (fun vm₁ hW₁ => ⟨hf.1, hf.2, hp.2 (T.setVm vm₁) hT hW₁⟩) with ⟨v, vm₁, ⟨U', l2, c2, s2⟩, hW₁, X', ⟨g', mk, t, L, e1, e2, hq, h1, hL, h2, h3⟩, st⟩ | ⟨q, vm₁, ⟨U', l2, c2, s2⟩, hW₁, X', ⟨g', mk, t, L, E, ce, e1, e2, hq, hce, hcv, hcl, h1, hL, h2, h3⟩, st⟩
  · dsimp only [Pt.U, Pt.locs, Pt.cells, Pt.slots] at X' e1 e2 h1 h2 h3 st
    subst h1; subst h2; subst h3
    exact Or.inl ⟨v, (T.setVm vm₁).calling g' mk As.toArray, t, U', L, hT, X', hL, e1, e2, hq, st⟩
  · dsimp only [Pt.U, Pt.locs, Pt.cells, Pt.slots] at X' e1 e2 h1 h2 h3 st hcl
    subst h1; subst h2; subst h3
    exact Or.inr ⟨q, (T.setVm vm₁).calling g' mk As.toArray, t, U', L, E, ce, hT, X', hL, e1, e2, hq, hce, hcv, vx_cls hW₁ hcl, st⟩
end Runs
section Rows
variable {p : Program} {l : Launch} {e : Env} {R : Room} {s : State} {m : MethodId} {args : Array Value} {below : List Frame} {meth : Method} {c : Code} {H : Heap} {locs : List Loc} {cells slots : Nat} {Q : State → Prop}
variable {mc ms : Nat} {free : Addr → Prop} {A0 A1 : Nat → Prop} {H0 : Heap} {a : Array Value} {pc : Nat} {ls : Array Slot} {st0 rest : List Value}
theorem vx_keep {st₀ t T' : State} {L : List Loc} (h0 : st₀.heap = H) (e1 : T'.heap = t.heap) (hS : va_S A0 H0 H locs) (hA : ∀ q, q < H.size → A1 q → A0 q) (hf : ∀ q, free q → A0 q) (hL : ∀ q ∈ L, free q.base) (hF : va_F A1 st₀ t) :
    H.size ≤ T'.heap.size ∧ (∀ q : Nat, q < H.size → ¬ A1 q → T'.heap[q]? = H[q]?) ∧ va_S A0 H0 T'.heap (locs ++ L) := by
  obtain ⟨hz, hk⟩ := hF
  rw [h0] at hz hk
  exact ⟨by rw [e1]; exact hz, fun q h1 h2 => by rw [e1]; exact hk q h1 h2,
    ⟨Nat.le_trans hS.1 (by rw [e1]; exact hz), fun q h1 h2 => by rw [e1, hk q (Nat.lt_of_lt_of_le h1 hS.1) (fun z => h2 (hA q (Nat.lt_of_lt_of_le h1 hS.1) z))]; exact hS.2.1 q h1 h2, fun q hq => by
      rcases List.mem_append.mp hq with h | h
      · exact hS.2.2 q h
      · exact hf _ (hL q h)⟩⟩
theorem vx_calli {S SX : Type} {post : Int32 → S → Prop} {px : SX → Prop} {B : S → State → Prop} {BX : String → SX → State → Prop} {AX : Nat → Prop} (hr : vx_Run p l e R s m args below meth c H locs cells slots mc ms (F0 m pc ls st0) rest (va_Qi post B A1 a) (vx_X px BX AX) free) (hS : va_S A0 H0 H locs) (hA : ∀ q, q < H.size → A1 q → A0 q) (hf : ∀ q, free q → A0 q) (hAX : ∀ q, q < H.size → AX q → A0 q)
    (kx : ∀ (E : String) (ce : Cell) (q9 : Addr) (u : SX) (t : State) (H1 : Heap) (locs1 : List Loc), t.heap = H1 → s.vm.Alike t.vm → px u → BX E u t → H.size ≤ H1.size → (∀ q : Nat, q < H.size → ¬ AX q → H1[q]? = H[q]?) → va_S A0 H0 H1 locs1 → H1[q9]? = some ce → ce.vm = .none → s.vm.findClass E = some ce.cls → vx_W p l e R s m args below meth c H1 locs1 (cells + mc) (slots + ms) Q (F0 m pc ls rest) q9)
    (kk : ∀ (r : Int32) (u : S) (t : State) (H1 : Heap) (locs1 : List Loc), t.heap = H1 → s.vm.Alike t.vm → post r u → B u t → H.size ≤ H1.size → (∀ q : Nat, q < H.size → ¬ A1 q → H1[q]? = H[q]?) → va_S A0 H0 H1 locs1 → W p l e R s m args below meth c H1 locs1 (cells + mc) (slots + ms) Q (F0 m (pc + 3) ls (.int r :: rest))) : W p l e R s m args below meth c H locs cells slots Q (F0 m pc ls st0) := by
  intro T hT X
  rcases hr T hT X with ⟨v, st₀, t, T', L, h0, X', hL, e1, e2, ⟨⟨r, u, hv, hp, hb⟩, hF⟩, st⟩ | ⟨q, st₀, t, T', L, E, ce, h0, X', hL, e1, e2, ⟨u, hp, hb, hF⟩, hce, hcv, hcl, st⟩
  · cases hv
    obtain ⟨k1, k2, k3⟩ := vx_keep h0 e1 hS hA hf hL hF
    obtain ⟨t2, a1, b1⟩ := kk r u t T'.heap (locs ++ L) e1.symm (by rw [← e2]; exact X'.warmed.alike) hp hb k1 k2 k3 T' rfl X'
    exact ⟨t2, st t2 a1, b1⟩
  · obtain ⟨k1, k2, k3⟩ := vx_keep h0 e1 hS hAX hf hL hF
    obtain ⟨t2, a1, b1⟩ := kx E ce q u t T'.heap (locs ++ L) e1.symm (by rw [← e2]; exact X'.warmed.alike) hp hb k1 k2 k3 (by rw [e1]; exact hce) hcv hcl T' rfl X'
    exact ⟨t2, st.trans a1, b1⟩
theorem vx_calll {S SX : Type} {post : Int64 → S → Prop} {px : SX → Prop} {B : S → State → Prop} {BX : String → SX → State → Prop} {AX : Nat → Prop} (hr : vx_Run p l e R s m args below meth c H locs cells slots mc ms (F0 m pc ls st0) rest (va_Ql post B A1 a) (vx_X px BX AX) free) (hS : va_S A0 H0 H locs) (hA : ∀ q, q < H.size → A1 q → A0 q) (hf : ∀ q, free q → A0 q) (hAX : ∀ q, q < H.size → AX q → A0 q)
    (kx : ∀ (E : String) (ce : Cell) (q9 : Addr) (u : SX) (t : State) (H1 : Heap) (locs1 : List Loc), t.heap = H1 → s.vm.Alike t.vm → px u → BX E u t → H.size ≤ H1.size → (∀ q : Nat, q < H.size → ¬ AX q → H1[q]? = H[q]?) → va_S A0 H0 H1 locs1 → H1[q9]? = some ce → ce.vm = .none → s.vm.findClass E = some ce.cls → vx_W p l e R s m args below meth c H1 locs1 (cells + mc) (slots + ms) Q (F0 m pc ls rest) q9)
    (kk : ∀ (r : Int64) (u : S) (t : State) (H1 : Heap) (locs1 : List Loc), t.heap = H1 → s.vm.Alike t.vm → post r u → B u t → H.size ≤ H1.size → (∀ q : Nat, q < H.size → ¬ A1 q → H1[q]? = H[q]?) → va_S A0 H0 H1 locs1 → W p l e R s m args below meth c H1 locs1 (cells + mc) (slots + ms) Q (F0 m (pc + 3) ls (.long r :: rest))) : W p l e R s m args below meth c H locs cells slots Q (F0 m pc ls st0) := by
  intro T hT X
  rcases hr T hT X with ⟨v, st₀, t, T', L, h0, X', hL, e1, e2, ⟨⟨r, u, hv, hp, hb⟩, hF⟩, st⟩ | ⟨q, st₀, t, T', L, E, ce, h0, X', hL, e1, e2, ⟨u, hp, hb, hF⟩, hce, hcv, hcl, st⟩
  · cases hv
    obtain ⟨k1, k2, k3⟩ := vx_keep h0 e1 hS hA hf hL hF
    obtain ⟨t2, a1, b1⟩ := kk r u t T'.heap (locs ++ L) e1.symm (by rw [← e2]; exact X'.warmed.alike) hp hb k1 k2 k3 T' rfl X'
    exact ⟨t2, st t2 a1, b1⟩
  · obtain ⟨k1, k2, k3⟩ := vx_keep h0 e1 hS hAX hf hL hF
    obtain ⟨t2, a1, b1⟩ := kx E ce q u t T'.heap (locs ++ L) e1.symm (by rw [← e2]; exact X'.warmed.alike) hp hb k1 k2 k3 (by rw [e1]; exact hce) hcv hcl T' rfl X'
    exact ⟨t2, st.trans a1, b1⟩
theorem vx_callf {S SX : Type} {post : UInt32 → S → Prop} {px : SX → Prop} {B : S → State → Prop} {BX : String → SX → State → Prop} {AX : Nat → Prop} (hr : vx_Run p l e R s m args below meth c H locs cells slots mc ms (F0 m pc ls st0) rest (va_Qf post B A1 a) (vx_X px BX AX) free) (hS : va_S A0 H0 H locs) (hA : ∀ q, q < H.size → A1 q → A0 q) (hf : ∀ q, free q → A0 q) (hAX : ∀ q, q < H.size → AX q → A0 q)
    (kx : ∀ (E : String) (ce : Cell) (q9 : Addr) (u : SX) (t : State) (H1 : Heap) (locs1 : List Loc), t.heap = H1 → s.vm.Alike t.vm → px u → BX E u t → H.size ≤ H1.size → (∀ q : Nat, q < H.size → ¬ AX q → H1[q]? = H[q]?) → va_S A0 H0 H1 locs1 → H1[q9]? = some ce → ce.vm = .none → s.vm.findClass E = some ce.cls → vx_W p l e R s m args below meth c H1 locs1 (cells + mc) (slots + ms) Q (F0 m pc ls rest) q9)
    (kk : ∀ (r : UInt32) (u : S) (t : State) (H1 : Heap) (locs1 : List Loc), t.heap = H1 → s.vm.Alike t.vm → post r u → B u t → H.size ≤ H1.size → (∀ q : Nat, q < H.size → ¬ A1 q → H1[q]? = H[q]?) → va_S A0 H0 H1 locs1 → W p l e R s m args below meth c H1 locs1 (cells + mc) (slots + ms) Q (F0 m (pc + 3) ls (.float r :: rest))) : W p l e R s m args below meth c H locs cells slots Q (F0 m pc ls st0) := by
  intro T hT X
  rcases hr T hT X with ⟨v, st₀, t, T', L, h0, X', hL, e1, e2, ⟨⟨r, u, hv, hp, hb⟩, hF⟩, st⟩ | ⟨q, st₀, t, T', L, E, ce, h0, X', hL, e1, e2, ⟨u, hp, hb, hF⟩, hce, hcv, hcl, st⟩
  · cases hv
    obtain ⟨k1, k2, k3⟩ := vx_keep h0 e1 hS hA hf hL hF
    obtain ⟨t2, a1, b1⟩ := kk r u t T'.heap (locs ++ L) e1.symm (by rw [← e2]; exact X'.warmed.alike) hp hb k1 k2 k3 T' rfl X'
    exact ⟨t2, st t2 a1, b1⟩
  · obtain ⟨k1, k2, k3⟩ := vx_keep h0 e1 hS hAX hf hL hF
    obtain ⟨t2, a1, b1⟩ := kx E ce q u t T'.heap (locs ++ L) e1.symm (by rw [← e2]; exact X'.warmed.alike) hp hb k1 k2 k3 (by rw [e1]; exact hce) hcv hcl T' rfl X'
    exact ⟨t2, st.trans a1, b1⟩
theorem vx_calld {S SX : Type} {post : UInt64 → S → Prop} {px : SX → Prop} {B : S → State → Prop} {BX : String → SX → State → Prop} {AX : Nat → Prop} (hr : vx_Run p l e R s m args below meth c H locs cells slots mc ms (F0 m pc ls st0) rest (va_Qd post B A1 a) (vx_X px BX AX) free) (hS : va_S A0 H0 H locs) (hA : ∀ q, q < H.size → A1 q → A0 q) (hf : ∀ q, free q → A0 q) (hAX : ∀ q, q < H.size → AX q → A0 q)
    (kx : ∀ (E : String) (ce : Cell) (q9 : Addr) (u : SX) (t : State) (H1 : Heap) (locs1 : List Loc), t.heap = H1 → s.vm.Alike t.vm → px u → BX E u t → H.size ≤ H1.size → (∀ q : Nat, q < H.size → ¬ AX q → H1[q]? = H[q]?) → va_S A0 H0 H1 locs1 → H1[q9]? = some ce → ce.vm = .none → s.vm.findClass E = some ce.cls → vx_W p l e R s m args below meth c H1 locs1 (cells + mc) (slots + ms) Q (F0 m pc ls rest) q9)
    (kk : ∀ (r : UInt64) (u : S) (t : State) (H1 : Heap) (locs1 : List Loc), t.heap = H1 → s.vm.Alike t.vm → post r u → B u t → H.size ≤ H1.size → (∀ q : Nat, q < H.size → ¬ A1 q → H1[q]? = H[q]?) → va_S A0 H0 H1 locs1 → W p l e R s m args below meth c H1 locs1 (cells + mc) (slots + ms) Q (F0 m (pc + 3) ls (.double r :: rest))) : W p l e R s m args below meth c H locs cells slots Q (F0 m pc ls st0) := by
  intro T hT X
  rcases hr T hT X with ⟨v, st₀, t, T', L, h0, X', hL, e1, e2, ⟨⟨r, u, hv, hp, hb⟩, hF⟩, st⟩ | ⟨q, st₀, t, T', L, E, ce, h0, X', hL, e1, e2, ⟨u, hp, hb, hF⟩, hce, hcv, hcl, st⟩
  · cases hv
    obtain ⟨k1, k2, k3⟩ := vx_keep h0 e1 hS hA hf hL hF
    obtain ⟨t2, a1, b1⟩ := kk r u t T'.heap (locs ++ L) e1.symm (by rw [← e2]; exact X'.warmed.alike) hp hb k1 k2 k3 T' rfl X'
    exact ⟨t2, st t2 a1, b1⟩
  · obtain ⟨k1, k2, k3⟩ := vx_keep h0 e1 hS hAX hf hL hF
    obtain ⟨t2, a1, b1⟩ := kx E ce q u t T'.heap (locs ++ L) e1.symm (by rw [← e2]; exact X'.warmed.alike) hp hb k1 k2 k3 (by rw [e1]; exact hce) hcv hcl T' rfl X'
    exact ⟨t2, st.trans a1, b1⟩
theorem vx_callv {S SX : Type} {post : S → Prop} {px : SX → Prop} {B : S → State → Prop} {BX : String → SX → State → Prop} {AX : Nat → Prop} (hr : vx_Run p l e R s m args below meth c H locs cells slots mc ms (F0 m pc ls st0) rest (va_Qv post B A1 a) (vx_X px BX AX) free) (hS : va_S A0 H0 H locs) (hA : ∀ q, q < H.size → A1 q → A0 q) (hf : ∀ q, free q → A0 q) (hAX : ∀ q, q < H.size → AX q → A0 q)
    (kx : ∀ (E : String) (ce : Cell) (q9 : Addr) (u : SX) (t : State) (H1 : Heap) (locs1 : List Loc), t.heap = H1 → s.vm.Alike t.vm → px u → BX E u t → H.size ≤ H1.size → (∀ q : Nat, q < H.size → ¬ AX q → H1[q]? = H[q]?) → va_S A0 H0 H1 locs1 → H1[q9]? = some ce → ce.vm = .none → s.vm.findClass E = some ce.cls → vx_W p l e R s m args below meth c H1 locs1 (cells + mc) (slots + ms) Q (F0 m pc ls rest) q9)
    (kk : ∀ (u : S) (t : State) (H1 : Heap) (locs1 : List Loc), t.heap = H1 → s.vm.Alike t.vm → post u → B u t → H.size ≤ H1.size → (∀ q : Nat, q < H.size → ¬ A1 q → H1[q]? = H[q]?) → va_S A0 H0 H1 locs1 → W p l e R s m args below meth c H1 locs1 (cells + mc) (slots + ms) Q (F0 m (pc + 3) ls (rest))) : W p l e R s m args below meth c H locs cells slots Q (F0 m pc ls st0) := by
  intro T hT X
  rcases hr T hT X with ⟨v, st₀, t, T', L, h0, X', hL, e1, e2, ⟨⟨u, hv, hp, hb⟩, hF⟩, st⟩ | ⟨q, st₀, t, T', L, E, ce, h0, X', hL, e1, e2, ⟨u, hp, hb, hF⟩, hce, hcv, hcl, st⟩
  · cases hv
    obtain ⟨k1, k2, k3⟩ := vx_keep h0 e1 hS hA hf hL hF
    obtain ⟨t2, a1, b1⟩ := kk u t T'.heap (locs ++ L) e1.symm (by rw [← e2]; exact X'.warmed.alike) hp hb k1 k2 k3 T' rfl X'
    exact ⟨t2, st t2 a1, b1⟩
  · obtain ⟨k1, k2, k3⟩ := vx_keep h0 e1 hS hAX hf hL hF
    obtain ⟨t2, a1, b1⟩ := kx E ce q u t T'.heap (locs ++ L) e1.symm (by rw [← e2]; exact X'.warmed.alike) hp hb k1 k2 k3 (by rw [e1]; exact hce) hcv hcl T' rfl X'
    exact ⟨t2, st.trans a1, b1⟩
/-- caught by the row x of this method's table; the rows ahead don't take it -/
theorem vx_catch {own name : String} {E : String} {ce : Cell} {q : Addr} (hown : s.vm.findClass own = some m.cls) (pre : List ExceptionTableEntry) (x : ExceptionTableEntry) (suf : List ExceptionTableEntry) (hsplit : c.exceptionTable.toList = pre ++ x :: suf)
    (hpass : ∀ z ∈ pre, covers z pc = false ∨ (z.catchType ≠ 0 ∧ ∃ nm : String, (Cond.classLink own z.catchType nm).before args s = true ∧ va_Nc E nm s)) (hx : covers x pc = true) (h0 : x.catchType ≠ 0)
    (hlink : (Cond.classLink own x.catchType name).before args s = true) (hcast : (Cond.castable E name).before args s = true) (hcell : H[q]? = some ce) (hv : ce.vm = .none) (hcl : s.vm.findClass E = some ce.cls)
    (kk : W p l e R s m args below meth c H locs cells slots Q (F0 m x.handlerPc ls [.ref q])) : vx_W p l e R s m args below meth c H locs cells slots Q (F0 m pc ls rest) q := by
  intro T hT X
  have hpl : e.platform.magicAccessors = ({} : Platform).magicAccessors := by rw [X.admits.platform]
  obtain ⟨c3, c4, hc3, hc4, hasg⟩ := Cond.castable_spec hcast
  cases Option.some.inj (hc3.symm.trans hcl)
  obtain ⟨c5, hc5, hcl5⟩ := Cond.classLink_spec hown hlink e.platform hpl
  cases Option.some.inj (hc4.symm.trans hc5)
  obtain ⟨vm', X', st⟩ := X.thenCaughtThrough q (g := F0 m pc ls rest) rfl (Steps.refl _) (by rw [hT]; exact hcell) (by rw [hv]; rfl) (by obtain ⟨k9, h9, -⟩ := Vm.findClass_spec hcl; exact ⟨k9, h9⟩) pre x suf hsplit
    (fun z hz => by
      rcases hpass z hz with h | ⟨hz0, nm, hl1, hn1⟩
      · exact Or.inl h
      · obtain ⟨c6, hc6, hcl6⟩ := Cond.classLink_spec hown hl1 e.platform hpl
        obtain ⟨a8, b8, h1, h2, h3⟩ := hn1
        cases Option.some.inj (h1.symm.trans hcl)
        cases Option.some.inj (h2.symm.trans hc6)
        exact Or.inr ⟨hz0, _, hcl6, h3⟩) hx (Or.inr ⟨h0, c4, hcl5, hasg⟩)
  obtain ⟨t, a1, b1⟩ := kk (T.setVm vm') hT X'
  exact ⟨t, st.trans a1, b1⟩
end Rows
section Ends
variable {p : Program} {l : Launch} {e : Env} {R : Room} {s : State} {m : MethodId} {args : Array Value} {below : List Frame} {meth : Method} {c : Code} {H : Heap} {locs : List Loc} {cells slots : Nat} {Q : State → Prop}
variable {mc ms : Nat} {free : Addr → Prop} {A0 A1 : Nat → Prop} {H0 : Heap} {a : Array Value} {ls : Array Slot} {st0 rest : List Value}
variable {Qc : Array Value → State → Outcome → State → Prop} {XC : String → State → State → Prop}
/-- what a body that may throw owes at its end -/
def vx_MQ (below : List Frame) (Qc : Array Value → State → Outcome → State → Prop) (XC : String → State → State → Prop) (a : Array Value) (s : State) (mc ms : Nat) (free : Addr → Prop) : State → Prop := fun t =>
  ∃ o, t.status = .running ∧ Ended t below o ∧ vx_Q Qc XC mc ms free a s o t
theorem vx_ret {g : JFrame} {mc ms : Nat} (k : W p l e R s m args below meth c H locs cells slots (MQ below Qc args s mc ms free) g) : W p l e R s m args below meth c H locs cells slots (vx_MQ below Qc XC args s mc ms free) g := by
  intro T hT X
  obtain ⟨t, a1, o, b1, b2, b3, b4⟩ := k T hT X
  exact ⟨t, a1, o, b1, b2, Or.inl ⟨b3, b4⟩⟩
/-- not caught here: it goes on to the caller -/
theorem vx_widen {g : JFrame} {q : Addr} {k n : Nat} (h1 : cells ≤ k) (h2 : slots ≤ n) (kk : vx_W p l e R s m args below meth c H locs k n Q g q) : vx_W p l e R s m args below meth c H locs cells slots Q g q := fun T hT X => kk T hT (stand_widen X h1 h2)
theorem vx_out {pc : Nat} {E : String} {ce : Cell} {q : Addr} {mc ms : Nat} (hout : ∀ x ∈ c.exceptionTable.toList, covers x pc = false) (hlocks : meth.locks = false) (hcell : H[q]? = some ce) (hv : ce.vm = .none) (hcl : s.vm.findClass E = some ce.cls)
    (hx : ∀ t : State, t.heap = H → s.vm.Alike t.vm → XC E s t) (hf : ∀ z ∈ locs, free z.base) (hc : cells ≤ mc) (hs : slots ≤ ms) :
    vx_W p l e R s m args below meth c H locs cells slots (vx_MQ below Qc XC args s mc ms free) (F0 m pc ls rest) q := by
  intro T hT X
  obtain ⟨st1, hrun, hend, hW, hsm⟩ := X.leaveThrown q (g := F0 m pc ls rest) rfl rfl rfl hout hlocks
  have hcell9 : (T.setFrames (.throwing q :: below)).heap[q]? = some ce := by
    show T.heap[q]? = some ce
    rw [hT]; exact hcell
  exact ⟨_, st1, .threw q, hrun, hend, Or.inr ⟨q, rfl, E, ce, locs, hx _ hT hW.alike, hcell9, hv, hcl, hW, hsm.mono hc hs, hf⟩⟩
theorem vx_frame {U : State} {k n : Nat} (h : s.sameButNew ({ U with vm := s.vm } : State) locs k n) : s.heap.size ≤ U.heap.size ∧ ∀ q : Nat, q < s.heap.size → (∀ z ∈ locs, z.base ≠ q) → U.heap[q]? = s.heap[q]? := by
  obtain ⟨-, h2, -, -, -, h6⟩ := h
  refine ⟨h2, fun q hq hz => ?_⟩
  obtain ⟨c9, e1, e2, e3, e4⟩ := h6 q _ (Array.getElem?_eq_getElem hq)
  have hs : c9.slots = (s.heap[q]).slots := Array.ext_getElem? fun i => e4 i fun hm => hz _ hm rfl
  have h9 : c9 = s.heap[q] := by
    rw [hs] at e2
    exact e2
  have e5 : U.heap[q]? = some c9 := e1
  rw [e5, h9, Array.getElem?_eq_getElem hq]
/-- the words of a throw but the four that speak of the heap -/
def vx_no (w : Cond) : Bool := decide (w ≠ .isRef (.static Bundle.tN "UNASSIGNED_STACK" Bundle.steD)) && decide (w ≠ .isRef (.static Bundle.tN "SUPPRESSED_SENTINEL" Bundle.listD)) && decide (w ≠ .laysStatic Bundle.tN "UNASSIGNED_STACK" Bundle.steD) && decide (w ≠ .laysStatic Bundle.tN "SUPPRESSED_SENTINEL" Bundle.listD)
def vx_at0 (own : String) (ic : Nat) (X : String) (names : List String) : List Cond := (Bundle.ownAtoms0 own ic X names).filter vx_no
def vx_atS (own : String) (ic : Nat) (X : String) (names : List String) : List Cond := (Bundle.ownAtoms own ic X names).filter vx_no
/-- a word that the tables alone decide, or a good one -/
def vx_ot (w : Cond) : Bool := w.onTables || goodWord w
theorem vx_ot_at {args a' : Array Value} {s U : State} {w : Cond} (hW : s.WarmedH U.vm) (hvm : s.vm = U.vm) (hg : vx_ot w = true) (h : w.before args s = true) : w.before a' U = true := by
  simp only [vx_ot, Bool.or_eq_true] at hg
  rcases hg with hg | hg
  · exact va_tabs hg hvm h
  · exact word_at hW (good_of_word hg) h
/-- a list's words: the good ones out of the method's own list, the others by premises of their own -/
theorem vx_hat {args : Array Value} {s : State} {L B : List Cond} (h1 : ∀ w ∈ L.filter goodWord, w.before args s = true) (h2 : ∀ w ∈ L.filter (fun w => !goodWord w), w ∈ B) (h3 : ∀ w ∈ B, w.before args s = true) : ∀ w ∈ L, w.before args s = true := by
  intro w hw
  by_cases g : goodWord w = true
  · exact h1 w (List.mem_filter.mpr ⟨hw, g⟩)
  · refine h3 w (h2 w (List.mem_filter.mpr ⟨hw, ?_⟩))
    show (!goodWord w) = true
    cases hgw : goodWord w
    · rfl
    · exact absurd hgw g
theorem vx_c {args : Array Value} {s : State} {w : Cond} {B : List Cond} (h : w.before args s = true) (t : ∀ w ∈ B, w.before args s = true) : ∀ w' ∈ w :: B, w'.before args s = true := fun w' h' => (List.mem_cons.mp h').elim (fun e => by rw [e]; exact h) (t w')
theorem vx_n {args : Array Value} {s : State} : ∀ w ∈ ([] : List Cond), w.before args s = true := fun _ h => nomatch h
theorem vx_own {args : Array Value} {s : State} {L : List Cond} (h1 : ∀ w ∈ L.filter vx_no, w.before args s = true)
    (hU : (Cond.isRef (.static Bundle.tN "UNASSIGNED_STACK" Bundle.steD)).before args s = true) (hN : (Cond.isRef (.static Bundle.tN "SUPPRESSED_SENTINEL" Bundle.listD)).before args s = true)
    (lU : (Cond.laysStatic Bundle.tN "UNASSIGNED_STACK" Bundle.steD).before args s = true) (lN : (Cond.laysStatic Bundle.tN "SUPPRESSED_SENTINEL" Bundle.listD).before args s = true) : ∀ w ∈ L, w.before args s = true := by
  intro w hw
  by_cases e1 : w = .isRef (.static Bundle.tN "UNASSIGNED_STACK" Bundle.steD)
  · rw [e1]; exact hU
  · by_cases e2 : w = .isRef (.static Bundle.tN "SUPPRESSED_SENTINEL" Bundle.listD)
    · rw [e2]; exact hN
    · by_cases e3 : w = .laysStatic Bundle.tN "UNASSIGNED_STACK" Bundle.steD
      · rw [e3]; exact lU
      · by_cases e4 : w = .laysStatic Bundle.tN "SUPPRESSED_SENTINEL" Bundle.listD
        · rw [e4]; exact lN
        · exact h1 w (List.mem_filter.mpr ⟨hw, by unfold vx_no; rw [decide_eq_true e1, decide_eq_true e2, decide_eq_true e3, decide_eq_true e4]; rfl⟩)
/-- where a static field lies, its class's statics cell in H -/
def vx_L (C n d : String) (A : Nat → Prop) (U : State) (H : Heap) : Prop := ∃ (c : ClassId) (k : Class) (i : Nat) (f : Field) (a : Nat) (cell : Cell), U.vm.findClass C = some c ∧ U.fieldFound? C n d = some (c, k, i, f) ∧ f.isStatic = true ∧ k.statics = some a ∧ H[a]? = some cell ∧ cell.vm.isStatics = true ∧ cell.cls = c ∧ f.slot < cell.slots.size ∧ k.staticTypes[f.slot]? = some f.type ∧ ¬ A a
theorem vx_L.moved {C n d : String} {A : Nat → Prop} {u U : State} {H : Heap} (hvm : u.vm.Alike U.vm) (h : vx_L C n d A u H) : vx_L C n d A U H := by
  obtain ⟨c, k, i, f, a, cell, h1, h2, h3, h4, h5, h6, h7, h8, h9, h10⟩ := h
  obtain ⟨k', hi', he⟩ := State.fieldFound?_setVm hvm h2
  exact ⟨c, k', i, f, a, cell, by rw [hvm.findClass]; exact h1, hi', h3, by rw [he]; exact h4, h5, h6, h7, h8, by rw [he]; exact h9, h10⟩
theorem vx_L.kept {C n d : String} {A : Nat → Prop} {U : State} {H H1 : Heap} (h : vx_L C n d A U H) (hq : ∀ a : Nat, a < H.size → ¬ A a → H1[a]? = H[a]?) : vx_L C n d A U H1 := by
  obtain ⟨c, k, i, f, a, cell, h1, h2, h3, h4, h5, h6, h7, h8, h9, h10⟩ := h
  exact ⟨c, k, i, f, a, cell, h1, h2, h3, h4, by rw [hq a (Array.getElem?_eq_some_iff.mp h5).1 h10]; exact h5, h6, h7, h8, h9, h10⟩
theorem vx_L.narrow {C n d : String} {A B : Nat → Prop} {U : State} {H : Heap} (h : vx_L C n d A U H) (hAB : ∀ q, B q → A q) : vx_L C n d B U H := by
  obtain ⟨c, k, i, f, a, cell, h1, h2, h3, h4, h5, h6, h7, h8, h9, h10⟩ := h
  exact ⟨c, k, i, f, a, cell, h1, h2, h3, h4, h5, h6, h7, h8, h9, fun z => h10 (hAB _ z)⟩
theorem vx_L.word {C n d : String} {A : Nat → Prop} {s : State} {args : Array Value} (h : vx_L C n d A s s.heap) : (Cond.laysStatic C n d).before args s = true := by
  obtain ⟨c, k, i, f, a, cell, h1, h2, h3, h4, h5, h6, h7, h8, h9, -⟩ := h
  show (Cond.laysStatic C n d).holds args s none s [] = true
  exact Cond.laysStatic_of h1 h2 h3 h4 h5 h6 h7 h8 h9
/-- .. and what it holds: null or some reference -/
def vx_Zq (C n d : String) (A : Nat → Prop) (U : State) (H : Heap) : Prop := va_Zq C n d A U H ∧ vx_L C n d A U H
theorem vx_Zq.moved {C n d : String} {A : Nat → Prop} {u U : State} {H : Heap} (hvm : u.vm.Alike U.vm) (h : vx_Zq C n d A u H) : vx_Zq C n d A U H := ⟨va_Zq.moved hvm h.1, vx_L.moved hvm h.2⟩
theorem vx_Zq.kept {C n d : String} {A : Nat → Prop} {U : State} {H H1 : Heap} (h : vx_Zq C n d A U H) (hq : ∀ a : Nat, a < H.size → ¬ A a → H1[a]? = H[a]?) : vx_Zq C n d A U H1 := ⟨va_Zq.kept h.1 hq, vx_L.kept h.2 hq⟩
theorem vx_Zq.narrow {C n d : String} {A B : Nat → Prop} {U : State} {H : Heap} (h : vx_Zq C n d A U H) (hAB : ∀ q, B q → A q) : vx_Zq C n d B U H := ⟨va_Zq.narrow h.1 hAB, vx_L.narrow h.2 hAB⟩
theorem vx_Zqof {args : Array Value} {s : State} {C n d : String} {A : Nat → Prop} (hl : (Cond.laysStatic C n d).before args s = true) (hini : (Cond.initialized C).before args s = true) (h : (Cond.isRef (.static C n d)).before args s = true) (hA : ∀ a : Nat, a < s.heap.size → ¬ A a) : vx_Zq C n d A s s.heap := by
  refine ⟨va_Zqof hl hini h hA, ?_⟩
  obtain ⟨c, k, i, f, a, cell, h1, h2, h3, h4, h5, h6, h7, h8, h9⟩ := Cond.laysStatic_spec hl
  exact ⟨c, k, i, f, a, cell, h1, h2, h3, h4, h5, h6, h7, h8, h9, hA a (Array.getElem?_eq_some_iff.mp h5).1⟩
theorem vx_isRef {C n d : String} {v : Value} {A : Nat → Prop} {s : State} {args : Array Value} (h : va_Z C n d v A s s.heap) (hv : v.isRef = true) : (Cond.isRef (.static C n d)).before args s = true := by
  obtain ⟨cf, kf, fi, f, a, cell, h1, h2, h3, h4, h5, h6, h7, -⟩ := h
  have he : (Term.static C n d).eval args s none [] s = some v := by
    simp [Term.eval, State.fieldNamed?, h1, h2, h4, h5, h6, h7]
  simp only [Cond.before, Cond.holds, Cond.value, he]
  cases v <;> simp_all [Value.isRef]
theorem vx_isRefq {C n d : String} {A : Nat → Prop} {s : State} {args : Array Value} (h : va_Zq C n d A s s.heap) : (Cond.isRef (.static C n d)).before args s = true := by
  rcases h with h | ⟨t, h⟩
  · exact vx_isRef h rfl
  · exact vx_isRef h rfl
/-- the same frame, seen from here: as if the method were called anew in this heap -/
theorem vx_rebase {T : State} (X : Stand p l e R s m args below meth c T locs cells slots) {R' : Room} (hf : R'.frames ≤ R.frames) (hl : R'.locals ≤ R.locals) (hc : cells + R'.cells ≤ R.cells) (hs : slots + R'.slots ≤ R.slots) :
    Stand p l e R' ((T.setVm s.vm).setFrames (.invoking m args :: below)) m args below meth c T [] 0 0 := by
  have htop : (T.setVm s.vm).topJava?.isSome := X.here.top
  have hF : ((T.setVm s.vm).setFrames (.invoking m args :: below)).frames = .invoking m args :: below := State.frames_setFrames _ (State.cur_lt_of_top htop)
  obtain ⟨g₀, hg0⟩ := Option.isSome_iff_exists.mp htop
  obtain ⟨r, hr⟩ := State.topJava?_eq_some.mp hg0
  have hl9 : e.platform.stackLimits (T.setVm s.vm).me = e.platform.stackLimits s.me := X.limits
  have hb9 : (T.setVm s.vm).me.stackBytes = s.me.stackBytes := X.bytes
  refine ⟨X.admits, X.cas, X.clock, hF, ?_, X.hears, X.method, X.code, X.here, X.tail, X.warmed, ?_, ?_, ?_⟩
  · have h := X.room
    have hU : ((T.setVm s.vm).setFrames (.invoking m args :: below)).localsInUse = s.localsInUse := by
      rw [State.localsInUse_invoking hF (meth := meth) (c := c) X.method X.code, State.localsInUse_invoking X.frames X.method X.code]
    simp only [State.hasRoom, Bool.and_eq_true, decide_eq_true_eq] at h ⊢
    obtain ⟨⟨⟨⟨h1, h2, h3, h4, h5, h6⟩, h7⟩, h8⟩, h9⟩ := h
    rw [X.frames, List.length_cons] at h2 h3
    have q1 := X.heapSize
    have q2 := X.used
    simp only [hF, hU, List.length_cons, State.stackLimits_setFrames, State.stackBytes_setFrames, hl9, hb9]
    refine ⟨⟨⟨⟨by omega, by omega, by omega, by omega, by omega, h6⟩, ?_⟩, ?_⟩, X.book⟩
    · show T.heap.size + R'.cells ≤ e.platform.maxCells
      omega
    · show T.slotsUsed + R'.slots ≤ e.platform.maxSlots
      omega
  · rw [State.stackLimits_setFrames]; rfl
  · rw [State.stackBytes_setFrames]; rfl
  · refine ⟨?_, Nat.le_refl _, Nat.le_refl _, ?_, ?_, fun a c9 h9 => ⟨c9, h9, rfl, rfl, fun _ _ => rfl⟩⟩
    · obtain ⟨t, ht, -⟩ := State.frames_cons hr
      show T.setVm s.vm = { ((T.setVm s.vm).setFrames (.invoking m args :: below)).setFrames (T.setVm s.vm).frames with heap := T.heap, slotsUsed := T.slotsUsed }
      rw [State.setFrames_setFrames, State.setFrames_self ht]
      rfl
    · show T.slotsUsed = T.slotsUsed + ((T.heap.toList.drop T.heap.size).map (·.slots.size)).sum
      rw [List.drop_eq_nil_of_le (Nat.le_of_eq Array.length_toList)]
      rfl
    · show ((T.heap.toList.drop T.heap.size).map (·.slots.size)).sum ≤ 0
      rw [List.drop_eq_nil_of_le (Nat.le_of_eq Array.length_toList)]
      exact Nat.le_refl _
/-- 'throw new E()': new; dup; invokespecial; athrow -/
theorem vx_throw0 {cc : ByteArray} {pc : Nat} (hexec : p.tables.exec = Jvm.exec) (hb : c.code = cc) (hl : l.stackTraces = false) {own cls : String} {names : List String} {ik ic mc ms : Nat} {A : Nat → Prop}
    (hown : s.vm.findClass own = some m.cls) (hcls : Bundle.fit cls = true) (hnames : ∀ n ∈ names, Bundle.fit n = true)
    (hk : (Cond.classLink own ik cls).before args s = true) (hini : (Cond.initialized cls).before args s = true) (hat : ∀ w ∈ vx_at0 own ic cls names, w.before args s = true)
    (hgood : ∀ w ∈ Cond.classLink own ik cls :: Cond.initialized cls :: vx_at0 own ic cls names, vx_ot w = true)
    (hU : vx_Zq Bundle.tN "UNASSIGNED_STACK" Bundle.steD A s s.heap) (hN : vx_Zq Bundle.tN "SUPPRESSED_SENTINEL" Bundle.listD A s s.heap) (hS : va_S A s.heap H locs) (hsize : ls.size = c.maxLocals)
    (d0 : decode cc pc = .ok (.new ik, 3)) (d3 : decode cc (pc + 3) = .ok (.dup, 1)) (d4 : decode cc (pc + 4) = .ok (.invokespecial ic, 3)) (d7 : decode cc (pc + 7) = .ok (.athrow, 1))
    (hout : ∀ x ∈ c.exceptionTable.toList, covers x (pc + 7) = false)
    (hRframes : names.length + 3 < R.frames) (hRlocals : (rest.map fun v => v.category).sum + (13 * (names.length + 1) + 42) ≤ R.locals) (hRcells : cells + 1 ≤ R.cells) (hRslots : slots + 6 ≤ R.slots) (hlocks : meth.locks = false)
    (hx : ∀ t : State, s.vm.Alike t.vm → H.size ≤ t.heap.size → (∀ q : Nat, q < H.size → t.heap[q]? = H[q]?) → XC cls s t)
    (hf : ∀ z ∈ locs, free z.base) (hc : cells + 1 ≤ mc) (hs : slots + 6 ≤ ms) :
    W p l e R s m args below meth c H locs cells slots (vx_MQ below Qc XC args s mc ms free) (F0 m pc ls rest) := by
  intro T hT X
  have htr : e.platform.stackTraces = false := (show e.platform.stackTraces = l.stackTraces by rw [X.admits.platform]).trans hl
  have Y := vx_rebase X (R' := { frames := R.frames, locals := R.locals, cells := 1, slots := 6 }) (Nat.le_refl _) (Nat.le_refl _) hRcells hRslots
  obtain ⟨s', hA⟩ : ∃ z, z = (T.setVm s.vm).setFrames (.invoking m args :: below) := ⟨_, rfl⟩
  rw [← hA] at Y
  have hvm : s'.vm = s.vm := by rw [hA]; rfl
  have hhp : s'.heap = H := by rw [hA]; exact hT
  have hW0 : s.WarmedH s'.vm := by rw [hvm]; exact State.WarmedH.refl s
  have hat' : ∀ w ∈ vx_at0 own ic cls names, w.before args s' = true := fun w hw => vx_ot_at hW0 hvm.symm (hgood w (List.mem_cons_of_mem _ (List.mem_cons_of_mem _ hw))) (hat w hw)
  have hk' : (Cond.classLink own ik cls).before args s' = true := vx_ot_at hW0 hvm.symm (hgood _ List.mem_cons_self) hk
  have hini' : (Cond.initialized cls).before args s' = true := vx_ot_at hW0 hvm.symm (hgood _ (List.mem_cons_of_mem _ List.mem_cons_self)) hini
  have hU' : vx_Zq Bundle.tN "UNASSIGNED_STACK" Bundle.steD A s' s'.heap := by rw [hhp]; exact vx_Zq.moved hW0.alike (hU.kept hS.2.1)
  have hN' : vx_Zq Bundle.tN "SUPPRESSED_SENTINEL" Bundle.listD A s' s'.heap := by rw [hhp]; exact vx_Zq.moved hW0.alike (hN.kept hS.2.1)
  have h : ∀ w ∈ Bundle.ownAtoms0 own ic cls names, w.before args s' = true := vx_own hat' (vx_isRefq hU'.1) (vx_isRefq hN'.1) hU'.2.word hN'.2.word
  have hown' : s'.vm.findClass own = some m.cls := by rw [hvm]; exact hown
  have hins : (Cond.instantiable cls 6).before args s' = true := h _ (by simp [Bundle.ownAtoms0])
  obtain ⟨vm₁, cX, kX, hfX, hkX, -, -, X₁, st1⟩ := Y.newCold hexec (own := own) (C := cls) (index := ik) (n := 6) hown' hk' hins hini'
    (g := F0 m pc ls rest) rfl (by rw [hb]; exact d0) (Nat.le_refl _) (Nat.le_refl _)
  generalize hT1 : (T.setVm vm₁).pushCell { cls := cX, slots := kX.instanceTypes.map defaultValue, vm := .none } = T1 at X₁ st1
  have hcat : (Value.ref T.heap.size).category = 1 := rfl
  have hcellA : T1.heap[T.heap.size]? = some (freshCell cX kX) := by rw [← hT1]; exact State.heap_pushCell_size _ _
  have d3' : decode c.code (pc + 3) = .ok (.dup, 1) := by rw [hb]; exact d3
  obtain ⟨U, hsteps, hrun, hend, hW, hsame, ce, hce, hO⟩ := X₁.ctorThrow0 hexec htr (own := own) (cls := cls) (names := names) (ic := ic) hown' hcls hnames h (fun x hx => nomatch hx) hfX hkX hcellA (by rw [hhp, hT]; exact Nat.le_refl _)
    (g := { method := m, pc := pc + 4, locals := ls, stack := .ref T.heap.size :: .ref T.heap.size :: rest, locked := none }) rfl hsize rfl rfl (rest := rest) rfl
    (by rw [hb]; exact d4) (by rw [hb]; exact d7) hout hRframes (by simp only [List.map_cons, List.sum_cons, hcat]; omega) hlocks
  obtain ⟨f1, f2⟩ := vx_frame hsame
  rw [hhp] at f1 f2
  have hWs : s.WarmedH U.vm := State.WarmedH.trans hW0 hW
  have hcl : s.vm.findClass cls = some ce.cls := by
    have h9 := hO.cls
    rw [hvm] at h9
    exact h9
  have hall : s.sameButNew ({ U with vm := s.vm } : State) locs mc ms := by
    subst hA
    obtain ⟨e1, e2⟩ := hsame
    rw [State.setFrames_setFrames] at e1
    have h2 : (T.setVm s.vm).sameButNew ({ U with vm := s.vm } : State) [] (0 + 1) (0 + 6) := ⟨e1, e2⟩
    have h3 := X.same.trans h2
    rw [List.append_nil] at h3
    exact h3.mono hc hs
  refine ⟨U, ?_, .threw T.heap.size, hrun, hend, Or.inr ⟨T.heap.size, rfl, cls, ce, locs, hx U hWs.alike f1 (fun q hq => f2 q hq (fun z hz => nomatch hz)), hce, hO.vm, hcl, hWs, hall, hf⟩⟩
  refine st1 _ ?_
  show Steps p.tables e below (T1.setTop { method := m, pc := pc + 3, locals := ls, stack := .ref T.heap.size :: rest, locked := none }) _
  jvm_step X₁.here [X₁.here.top, hexec, d3', Value.category]
  exact hsteps
/-- 'throw new E("text")': new; dup; ldc; invokespecial; athrow -/
theorem vx_throwS {cc : ByteArray} {pc : Nat} (hexec : p.tables.exec = Jvm.exec) (hb : c.code = cc) (hl : l.stackTraces = false) {own cls text : String} {names : List String} {ik is ic mc ms sa : Nat} {A : Nat → Prop}
    (hown : s.vm.findClass own = some m.cls) (hcls : Bundle.fit cls = true) (hnames : ∀ n ∈ names, Bundle.fit n = true)
    (hk : (Cond.classLink own ik cls).before args s = true) (hini : (Cond.initialized cls).before args s = true) (hstr : vk_R own is text sa s) (hat : ∀ w ∈ vx_atS own ic cls names, w.before args s = true)
    (hgood : ∀ w ∈ Cond.classLink own ik cls :: Cond.initialized cls :: vx_atS own ic cls names, vx_ot w = true)
    (hU : vx_Zq Bundle.tN "UNASSIGNED_STACK" Bundle.steD A s s.heap) (hN : vx_Zq Bundle.tN "SUPPRESSED_SENTINEL" Bundle.listD A s s.heap) (hS : va_S A s.heap H locs) (hsize : ls.size = c.maxLocals)
    (d0 : decode cc pc = .ok (.new ik, 3)) (d3 : decode cc (pc + 3) = .ok (.dup, 1)) (d4 : decode cc (pc + 4) = .ok (.ldc is, 2)) (d6 : decode cc (pc + 6) = .ok (.invokespecial ic, 3)) (d9 : decode cc (pc + 9) = .ok (.athrow, 1))
    (hout : ∀ x ∈ c.exceptionTable.toList, covers x (pc + 9) = false)
    (hRframes : names.length + 3 < R.frames) (hRlocals : (rest.map fun v => v.category).sum + (13 * (names.length + 1) + 43) ≤ R.locals) (hRcells : cells + 1 ≤ R.cells) (hRslots : slots + 6 ≤ R.slots) (hlocks : meth.locks = false)
    (hx : ∀ t : State, s.vm.Alike t.vm → H.size ≤ t.heap.size → (∀ q : Nat, q < H.size → t.heap[q]? = H[q]?) → XC cls s t)
    (hf : ∀ z ∈ locs, free z.base) (hc : cells + 1 ≤ mc) (hs : slots + 6 ≤ ms) :
    W p l e R s m args below meth c H locs cells slots (vx_MQ below Qc XC args s mc ms free) (F0 m pc ls rest) := by
  intro T hT X
  have htr : e.platform.stackTraces = false := (show e.platform.stackTraces = l.stackTraces by rw [X.admits.platform]).trans hl
  have Y := vx_rebase X (R' := { frames := R.frames, locals := R.locals, cells := 1, slots := 6 }) (Nat.le_refl _) (Nat.le_refl _) hRcells hRslots
  obtain ⟨s', hA⟩ : ∃ z, z = (T.setVm s.vm).setFrames (.invoking m args :: below) := ⟨_, rfl⟩
  rw [← hA] at Y
  have hvm : s'.vm = s.vm := by rw [hA]; rfl
  have hhp : s'.heap = H := by rw [hA]; exact hT
  have hW0 : s.WarmedH s'.vm := by rw [hvm]; exact State.WarmedH.refl s
  have hat' : ∀ w ∈ vx_atS own ic cls names, w.before args s' = true := fun w hw => vx_ot_at hW0 hvm.symm (hgood w (List.mem_cons_of_mem _ (List.mem_cons_of_mem _ hw))) (hat w hw)
  have hk' : (Cond.classLink own ik cls).before args s' = true := vx_ot_at hW0 hvm.symm (hgood _ List.mem_cons_self) hk
  have hini' : (Cond.initialized cls).before args s' = true := vx_ot_at hW0 hvm.symm (hgood _ (List.mem_cons_of_mem _ List.mem_cons_self)) hini
  have hU' : vx_Zq Bundle.tN "UNASSIGNED_STACK" Bundle.steD A s' s'.heap := by rw [hhp]; exact vx_Zq.moved hW0.alike (hU.kept hS.2.1)
  have hN' : vx_Zq Bundle.tN "SUPPRESSED_SENTINEL" Bundle.listD A s' s'.heap := by rw [hhp]; exact vx_Zq.moved hW0.alike (hN.kept hS.2.1)
  have h : ∀ w ∈ Bundle.ownAtoms own ic cls names, w.before args s' = true := vx_own hat' (vx_isRefq hU'.1) (vx_isRefq hN'.1) hU'.2.word hN'.2.word
  have hown' : s'.vm.findClass own = some m.cls := by rw [hvm]; exact hown
  have hins : (Cond.instantiable cls 6).before args s' = true := h _ (by simp [Bundle.ownAtoms])
  obtain ⟨vm₁, cX, kX, hfX, hkX, -, -, X₁, st1⟩ := Y.newCold hexec (own := own) (C := cls) (index := ik) (n := 6) hown' hk' hins hini'
    (g := F0 m pc ls rest) rfl (by rw [hb]; exact d0) (Nat.le_refl _) (Nat.le_refl _)
  generalize hT1 : (T.setVm vm₁).pushCell { cls := cX, slots := kX.instanceTypes.map defaultValue, vm := .none } = T1 at X₁ st1
  have hcat : (Value.ref T.heap.size).category = 1 := rfl
  have hcellA : T1.heap[T.heap.size]? = some (freshCell cX kX) := by rw [← hT1]; exact State.heap_pushCell_size _ _
  have d3' : decode c.code (pc + 3) = .ok (.dup, 1) := by rw [hb]; exact d3
  have d4' : decode c.code (pc + 4) = .ok (.ldc is, 2) := by rw [hb]; exact d4
  have hstr' : vk_R own is text sa s' := vk_R.warm hW0 hstr
  obtain ⟨U, hsteps, hrun, hend, hW, hsame, ce, hce, hO⟩ := X₁.ctorThrowS hexec htr (own := own) (cls := cls) (names := names) (ic := ic) hown' hcls hnames h (fun x hx => nomatch hx) hfX hkX hcellA (by rw [hhp, hT]; exact Nat.le_refl _) (msg := .ref sa) rfl
    (g := { method := m, pc := pc + 6, locals := ls, stack := .ref sa :: .ref T.heap.size :: .ref T.heap.size :: rest, locked := none }) rfl hsize rfl rfl (rest := rest) rfl
    (by rw [hb]; exact d6) (by rw [hb]; exact d9) hout hRframes (by simp only [List.map_cons, List.sum_cons, hcat]; omega) hlocks
  obtain ⟨f1, f2⟩ := vx_frame hsame
  rw [hhp] at f1 f2
  have hWs : s.WarmedH U.vm := State.WarmedH.trans hW0 hW
  have hcl : s.vm.findClass cls = some ce.cls := by
    have h9 := hO.cls
    rw [hvm] at h9
    exact h9
  have hall : s.sameButNew ({ U with vm := s.vm } : State) locs mc ms := by
    subst hA
    obtain ⟨e1, e2⟩ := hsame
    rw [State.setFrames_setFrames] at e1
    have h2 : (T.setVm s.vm).sameButNew ({ U with vm := s.vm } : State) [] (0 + 1) (0 + 6) := ⟨e1, e2⟩
    have h3 := X.same.trans h2
    rw [List.append_nil] at h3
    exact h3.mono hc hs
  refine ⟨U, ?_, .threw T.heap.size, hrun, hend, Or.inr ⟨T.heap.size, rfl, cls, ce, locs, hx U hWs.alike f1 (fun q hq => f2 q hq (fun z hz => nomatch hz)), hce, hO.vm, hcl, hWs, hall, hf⟩⟩
  refine st1 _ ?_
  show Steps p.tables e below (T1.setTop { method := m, pc := pc + 3, locals := ls, stack := .ref T.heap.size :: rest, locked := none }) _
  jvm_step X₁.here [X₁.here.top, hexec, d3', Value.category]
  exact X₁.ldcString hexec (own := own) (text := text) (index := is) (a := sa) hown' hstr'.1 hstr'.2
    (g := { method := m, pc := pc + 4, locals := ls, stack := .ref T.heap.size :: .ref T.heap.size :: rest, locked := none }) rfl d4' _ hsteps
/-- 'throw new E("text")', the text by a wide index -/
theorem vx_throwSW {cc : ByteArray} {pc : Nat} (hexec : p.tables.exec = Jvm.exec) (hb : c.code = cc) (hl : l.stackTraces = false) {own cls text : String} {names : List String} {ik is ic mc ms sa : Nat} {A : Nat → Prop}
    (hown : s.vm.findClass own = some m.cls) (hcls : Bundle.fit cls = true) (hnames : ∀ n ∈ names, Bundle.fit n = true)
    (hk : (Cond.classLink own ik cls).before args s = true) (hini : (Cond.initialized cls).before args s = true) (hstr : vk_R own is text sa s) (hat : ∀ w ∈ vx_atS own ic cls names, w.before args s = true)
    (hgood : ∀ w ∈ Cond.classLink own ik cls :: Cond.initialized cls :: vx_atS own ic cls names, vx_ot w = true)
    (hU : vx_Zq Bundle.tN "UNASSIGNED_STACK" Bundle.steD A s s.heap) (hN : vx_Zq Bundle.tN "SUPPRESSED_SENTINEL" Bundle.listD A s s.heap) (hS : va_S A s.heap H locs) (hsize : ls.size = c.maxLocals)
    (d0 : decode cc pc = .ok (.new ik, 3)) (d3 : decode cc (pc + 3) = .ok (.dup, 1)) (d4 : decode cc (pc + 4) = .ok (.ldc_w is, 3)) (d7 : decode cc (pc + 7) = .ok (.invokespecial ic, 3)) (d10 : decode cc (pc + 10) = .ok (.athrow, 1))
    (hout : ∀ x ∈ c.exceptionTable.toList, covers x (pc + 10) = false)
    (hRframes : names.length + 3 < R.frames) (hRlocals : (rest.map fun v => v.category).sum + (13 * (names.length + 1) + 43) ≤ R.locals) (hRcells : cells + 1 ≤ R.cells) (hRslots : slots + 6 ≤ R.slots) (hlocks : meth.locks = false)
    (hx : ∀ t : State, s.vm.Alike t.vm → H.size ≤ t.heap.size → (∀ q : Nat, q < H.size → t.heap[q]? = H[q]?) → XC cls s t)
    (hf : ∀ z ∈ locs, free z.base) (hc : cells + 1 ≤ mc) (hs : slots + 6 ≤ ms) :
    W p l e R s m args below meth c H locs cells slots (vx_MQ below Qc XC args s mc ms free) (F0 m pc ls rest) := by
  intro T hT X
  have htr : e.platform.stackTraces = false := (show e.platform.stackTraces = l.stackTraces by rw [X.admits.platform]).trans hl
  have Y := vx_rebase X (R' := { frames := R.frames, locals := R.locals, cells := 1, slots := 6 }) (Nat.le_refl _) (Nat.le_refl _) hRcells hRslots
  obtain ⟨s', hA⟩ : ∃ z, z = (T.setVm s.vm).setFrames (.invoking m args :: below) := ⟨_, rfl⟩
  rw [← hA] at Y
  have hvm : s'.vm = s.vm := by rw [hA]; rfl
  have hhp : s'.heap = H := by rw [hA]; exact hT
  have hW0 : s.WarmedH s'.vm := by rw [hvm]; exact State.WarmedH.refl s
  have hat' : ∀ w ∈ vx_atS own ic cls names, w.before args s' = true := fun w hw => vx_ot_at hW0 hvm.symm (hgood w (List.mem_cons_of_mem _ (List.mem_cons_of_mem _ hw))) (hat w hw)
  have hk' : (Cond.classLink own ik cls).before args s' = true := vx_ot_at hW0 hvm.symm (hgood _ List.mem_cons_self) hk
  have hini' : (Cond.initialized cls).before args s' = true := vx_ot_at hW0 hvm.symm (hgood _ (List.mem_cons_of_mem _ List.mem_cons_self)) hini
  have hU' : vx_Zq Bundle.tN "UNASSIGNED_STACK" Bundle.steD A s' s'.heap := by rw [hhp]; exact vx_Zq.moved hW0.alike (hU.kept hS.2.1)
  have hN' : vx_Zq Bundle.tN "SUPPRESSED_SENTINEL" Bundle.listD A s' s'.heap := by rw [hhp]; exact vx_Zq.moved hW0.alike (hN.kept hS.2.1)
  have h : ∀ w ∈ Bundle.ownAtoms own ic cls names, w.before args s' = true := vx_own hat' (vx_isRefq hU'.1) (vx_isRefq hN'.1) hU'.2.word hN'.2.word
  have hown' : s'.vm.findClass own = some m.cls := by rw [hvm]; exact hown
  have hins : (Cond.instantiable cls 6).before args s' = true := h _ (by simp [Bundle.ownAtoms])
  obtain ⟨vm₁, cX, kX, hfX, hkX, -, -, X₁, st1⟩ := Y.newCold hexec (own := own) (C := cls) (index := ik) (n := 6) hown' hk' hins hini'
    (g := F0 m pc ls rest) rfl (by rw [hb]; exact d0) (Nat.le_refl _) (Nat.le_refl _)
  generalize hT1 : (T.setVm vm₁).pushCell { cls := cX, slots := kX.instanceTypes.map defaultValue, vm := .none } = T1 at X₁ st1
  have hcat : (Value.ref T.heap.size).category = 1 := rfl
  have hcellA : T1.heap[T.heap.size]? = some (freshCell cX kX) := by rw [← hT1]; exact State.heap_pushCell_size _ _
  have d3' : decode c.code (pc + 3) = .ok (.dup, 1) := by rw [hb]; exact d3
  have d4' : decode c.code (pc + 4) = .ok (.ldc_w is, 3) := by rw [hb]; exact d4
  have hstr' : vk_R own is text sa s' := vk_R.warm hW0 hstr
  obtain ⟨U, hsteps, hrun, hend, hW, hsame, ce, hce, hO⟩ := X₁.ctorThrowS hexec htr (own := own) (cls := cls) (names := names) (ic := ic) hown' hcls hnames h (fun x hx => nomatch hx) hfX hkX hcellA (by rw [hhp, hT]; exact Nat.le_refl _) (msg := .ref sa) rfl
    (g := { method := m, pc := pc + 7, locals := ls, stack := .ref sa :: .ref T.heap.size :: .ref T.heap.size :: rest, locked := none }) rfl hsize rfl rfl (rest := rest) rfl
    (by rw [hb]; exact d7) (by rw [hb]; exact d10) hout hRframes (by simp only [List.map_cons, List.sum_cons, hcat]; omega) hlocks
  obtain ⟨f1, f2⟩ := vx_frame hsame
  rw [hhp] at f1 f2
  have hWs : s.WarmedH U.vm := State.WarmedH.trans hW0 hW
  have hcl : s.vm.findClass cls = some ce.cls := by
    have h9 := hO.cls
    rw [hvm] at h9
    exact h9
  have hall : s.sameButNew ({ U with vm := s.vm } : State) locs mc ms := by
    subst hA
    obtain ⟨e1, e2⟩ := hsame
    rw [State.setFrames_setFrames] at e1
    have h2 : (T.setVm s.vm).sameButNew ({ U with vm := s.vm } : State) [] (0 + 1) (0 + 6) := ⟨e1, e2⟩
    have h3 := X.same.trans h2
    rw [List.append_nil] at h3
    exact h3.mono hc hs
  refine ⟨U, ?_, .threw T.heap.size, hrun, hend, Or.inr ⟨T.heap.size, rfl, cls, ce, locs, hx U hWs.alike f1 (fun q hq => f2 q hq (fun z hz => nomatch hz)), hce, hO.vm, hcl, hWs, hall, hf⟩⟩
  refine st1 _ ?_
  show Steps p.tables e below (T1.setTop { method := m, pc := pc + 3, locals := ls, stack := .ref T.heap.size :: rest, locked := none }) _
  jvm_step X₁.here [X₁.here.top, hexec, d3', Value.category]
  exact X₁.ldcStringW hexec (own := own) (text := text) (index := is) (a := sa) hown' hstr'.1 hstr'.2
    (g := { method := m, pc := pc + 4, locals := ls, stack := .ref T.heap.size :: .ref T.heap.size :: rest, locked := none }) rfl d4' _ hsteps
end Ends
section Bodies
variable {l : Launch}
theorem vx_ofW {y : MethodName} {ws ws' : List Cond} {rm : Room} {Pc : Array Value → State → Prop} {Qc : Array Value → State → Outcome → State → Prop} {XC : String → State → State → Prop} {mc ms : Nat} {free : Addr → Prop} {cc : ByteArray} {maxL : Nat} {ret : Option FieldType}
    (hy : plainName y.cls = true) (hw : ws = Cond.code y cc maxL ret :: ws')
    (body : ∀ p e s m args below meth c s₁, BodyLoose p l y (headSpec ws rm) cc maxL ret e s m args below meth c s₁ → c.maxLocals = maxL → (∀ x ∈ c.exceptionTable.toList, False) → Pc args s →
      W p l e (headSpec ws rm).room s m args below meth c s.heap [] 0 0 (vx_MQ below Qc XC args s mc ms free) (entryFrame m args maxL)) : vx_Met l y ws rm Pc Qc XC mc ms free := by
  refine MetFree.of_bodyS (code := cc) (maxLocals := maxL) (ret := ret) hy ?_ ?_
  · intro args s m h hn
    obtain ⟨meth, c, h1, h2, h3, h4, h5, h6, -, -⟩ := Cond.code_spec hn (atoms_spec (ws := ws) h _ (by rw [hw]; exact List.mem_cons_self))
    exact ⟨meth, c, h1, h2, h3, h4, h5, h6⟩
  · intro p e s m args below meth c s₁ B hml hP _
    have hh0 : s₁.heap = s.heap := by rw [B.state]; rfl
    have ht : ∀ x ∈ c.exceptionTable.toList, False := by
      obtain ⟨meth9, c9, h1, h2, -, -, -, -, h7, -⟩ := Cond.code_spec B.named (atoms_spec (ws := ws) B.pre _ (by rw [hw]; exact List.mem_cons_self))
      cases Option.some.inj (h1.symm.trans B.method)
      cases Option.some.inj (h2.symm.trans (Stand.of_body B).code)
      intro x hx
      rw [Array.isEmpty_iff.mp h7] at hx
      cases hx
    obtain ⟨t, a1, o, b1, b2, b3⟩ := body p e s m args below meth c s₁ B hml ht hP s₁ hh0 (Stand.of_body B)
    exact ⟨t, o, a1, b1, b2, b3⟩
/-- the table of a body with handlers -/
theorem vx_table {p : Program} {x y : MethodName} {S : Spec} {cc bytes : ByteArray} {maxL maxL' : Nat} {ret ret' : Option FieldType} {e : Env} {s s₁ : State} {m : MethodId} {args : Array Value} {below : List Frame} {meth : Method} {c : Code} {hh : List (Nat × Nat × Nat × Nat)}
    (B : BodyLoose p l y S cc maxL ret e s m args below meth c s₁) (h : (Cond.codeWith y bytes maxL' ret' hh).before args s = true) : c.exceptionTable.toList = tableOf hh := by
  obtain ⟨m9, meth9, c9, hn9, h1, h2, -, -, h6, -⟩ := Cond.codeWith_spec h
  cases Option.some.inj (hn9.symm.trans B.named)
  cases Option.some.inj (h1.symm.trans B.method)
  cases Option.some.inj (h2.symm.trans (Stand.of_body B).code)
  rw [← h6, table_eq]
end Bodies
end VXA
/-! ===== END ===== -/
/-! ===== BEGIN a static call of a method with an exception table ===== -/
section VXS
variable {p : Program} {l : Launch} {e : Env} {R : Room} {s : State} {m : MethodId} {args : Array Value} {below : List Frame} {meth : Method} {c : Code} {T : State} {H : Heap} {locs : List Loc} {cells slots : Nat}
abbrev vx_CSW (R : Room) (s : State) (args : Array Value) (own : String) (index : Nat) (y : MethodName) (bytes : ByteArray) (maxL : Nat) (ret : Option FieldType) (hh : List (Nat × Nat × Nat × Nat)) (ws : List Cond) (rm : Room) (mc ms n : Nat) : Prop :=
  (rm.cells = mc ∧ rm.slots = ms ∧ rm.frames + 1 ≤ R.frames ∧ 8 + (maxL + 11) + rm.locals ≤ R.locals ∧ (∀ w ∈ ws, ∀ (a' : Array Value) (U : State), s.WarmedH U.vm → w.before a' U = true) ∧ Cond.codeWith y bytes maxL ret hh ∈ ws) ∧
  (Cond.codeWith y bytes maxL ret hh).before args s = true ∧ (Cond.initialized y.cls).before args s = true ∧ (y.cls ≠ "java/lang/invoke/MethodHandle" ∧ y.cls ≠ "java/lang/invoke/VarHandle") ∧
  (∀ sig, parseMethodDescriptor y.desc = some sig → n = sig.parameters.length) ∧ (Cond.methodLink own index y).before args s = true ∧ (Cond.static y).before args s = true
theorem vx_cwSW {own : String} {index maxL mc ms : Nat} {y : MethodName} {bytes : ByteArray} {ret : Option FieldType} {hh : List (Nat × Nat × Nat × Nat)} {Ts ws ws' : List Cond} {rm : Room} (n : Nat) (ht : ∀ w ∈ Ts, w.before args s = true) (hT : GoodIn Ts (va_wsS own index y ws)) (hw : ws = Cond.codeWith y bytes maxL ret hh :: ws') (hrc : rm.cells = mc) (hrs : rm.slots = ms)
    (hd : y.cls ≠ "java/lang/invoke/MethodHandle" ∧ y.cls ≠ "java/lang/invoke/VarHandle" ∧ (parseMethodDescriptor y.desc).map (fun d => d.parameters.length) = some n) (hR : rm.frames + 1 ≤ R.frames ∧ 8 + (maxL + 11) + rm.locals ≤ R.locals) :
    vx_CSW R s args own index y bytes maxL ret hh ws rm mc ms n := by
  have ok : ∀ w ∈ va_wsS own index y ws, w.before args s = true := fun w h => ht w (hT w h).1
  have hG : GoodIn Ts ws := fun w h => hT w (by unfold va_wsS; exact List.mem_append_right _ h)
  have hc : Cond.codeWith y bytes maxL ret hh ∈ ws := by rw [hw]; exact List.mem_cons_self
  refine ⟨⟨hrc, hrs, hR.1, hR.2, pay_in ht hG, hc⟩, ht _ (hG _ hc).1, ok _ (by simp [va_wsS]), ⟨hd.1, hd.2.1⟩, fun sig h => ?_, ok _ (by simp [va_wsS]), ok _ (by simp [va_wsS])⟩
  have h2 := hd.2.2
  rw [h] at h2
  exact (Option.some.inj h2).symm
theorem vx_callSW (X : Stand p l e R s m args below meth c T locs cells slots) (hexec : p.tables.exec = Jvm.exec) {own : String} {index : Nat} {y : MethodName} {bytes : ByteArray} {maxL : Nat} {ret : Option FieldType} {hh : List (Nat × Nat × Nat × Nat)}
    (hown : s.vm.findClass own = some m.cls) (hlink : (Cond.methodLink own index y).before args s = true) (hstat : (Cond.static y).before args s = true) (hinit : (Cond.initialized y.cls).before args s = true)
    (hcode : (Cond.codeWith y bytes maxL ret hh).before args s = true) (hy : y.cls ≠ "java/lang/invoke/MethodHandle" ∧ y.cls ≠ "java/lang/invoke/VarHandle")
    {W9 : Nat} {Pre : Pt → Array Value → Prop} {Post : Pt → Array Value → Option Value → Pt → Prop} (hK : Back l R p e below s args y 3 W9 Pre Post)
    {g : JFrame} (hg : g.method = m) (hsize : g.locals.size = c.maxLocals) {argsL rest : List Value} (hlen : ∀ sig, parseMethodDescriptor y.desc = some sig → argsL.length = sig.parameters.length)
    (hstack : g.stack = argsL.reverse ++ rest) (hW : 2 * g.monitorRoom + (rest.map fun v => v.category).sum ≤ W9) (hdg : decode c.code g.pc = .ok (.invokestatic index, 3))
    (hpre : ∀ vm₁, s.WarmedH vm₁ → Pre ⟨T.setVm vm₁, locs, cells, slots⟩ argsL.toArray) :
    ∃ (v : Option Value) (vm₁ : Vm) (B : Pt), s.WarmedH vm₁ ∧ Stand p l e R s m args below meth c B.U B.locs B.cells B.slots ∧ Post ⟨T.setVm vm₁, locs, cells, slots⟩ argsL.toArray v B ∧
      ∀ target, Steps p.tables e below (B.U.setTop { g with pc := g.pc + 3, stack := v.toList ++ rest }) target → Steps p.tables e below (T.setTop g) target := by
  obtain ⟨mk, methM, cM, hnamed, hmethM, -, -, -, -, -, -, hsigM⟩ := Cond.codeWith_spec hcode
  have hstatic : methM.isStatic = true := Cond.static_spec hnamed hmethM hstat
  obtain ⟨kP, hkP, -⟩ := className_of_methodNamed hnamed
  have hinitP : kP.init = .initialized := Cond.initialized_spec (findClass_of_methodNamed hnamed) hkP hinit
  obtain ⟨vm₁, X₁, hstep₁⟩ := X.invokestatic hexec hown hlink hnamed hmethM hstatic hkP hinitP hy (g := g) hg (argsL := argsL) (rest := rest) (hlen _ hsigM) hstack hdg
  obtain ⟨v, B, X', hpost, hsteps⟩ := hK m meth c ⟨T.setVm vm₁, locs, cells, slots⟩ { g with stack := rest } (.invokestatic index) mk argsL.toArray X₁ hg hsize hdg hW (X₁.named hnamed) (hpre vm₁ X₁.warmed)
  exact ⟨v, vm₁, B, X₁.warmed, X', hpost, fun target h => hstep₁ _ fun acts => by rw [doInvoke_state]; exact hsteps.trans h⟩
theorem vx_runSW {y : MethodName} {bytes cc : ByteArray} {maxL nL mc ms n index : Nat} {ret : Option FieldType} {hh : List (Nat × Nat × Nat × Nat)} {ws : List Cond} {rm : Room} {Pc : Array Value → State → Prop} {Qc : Array Value → State → Outcome → State → Prop} {free : Addr → Prop} {Ts : List Cond} {own : String} {As rest : List Value} {g : JFrame}
    (S : CallFix p m c cc nL s args Ts own) (hM : Met l y ws rm Pc Qc mc ms free) (cw : vx_CSW R s args own index y bytes maxL ret hh ws rm mc ms n) (hp : PreS s H Pc As)
    (hg : g.method = m) (hn : As.length = n) (hsize : g.locals.size = nL) (hstack : g.stack = As.reverse ++ rest) (hW : 2 * g.monitorRoom + (rest.map fun v => v.category).sum ≤ 8) (hdg : decode cc g.pc = .ok (.invokestatic index, 3)) (hf : cells + mc ≤ R.cells ∧ slots + ms ≤ R.slots) :
    va_Run p l e R s m args below meth c H locs cells slots mc ms g rest (Qc As.toArray) (free) := by
  obtain ⟨⟨hrc, hrs, hfr, hlo, hws, hcw⟩, hcode, hini, hy, hlen, hl, hstt⟩ := cw
  have hK : Back l R p e below s args y 3 8 (PreOf R mc ms Pc) (PostOf Qc mc ms free) := va_backW (hh := hh) (bytes := bytes) (maxL := maxL) (ret := ret) hM hp.1 hrc hrs hfr hlo hws hcw (fun a' U hW => word_at hW (Or.inl (by first | rfl | simp [Cond.onTables, Cond.keeps, Cond.steady])) hini)
  obtain ⟨hx, hb, hml, ho, -⟩ := S
  intro T hT X
  obtain ⟨v, vm₁, ⟨U', l2, c2, s2⟩, hW₁, X', ⟨g', mk, t, L, e1, e2, hq, h1, hL, h2, h3⟩, st⟩ := vx_callSW X hx (hh := hh) (bytes := bytes) (maxL := maxL) (ret := ret) ho hl hstt hini hcode hy hK hg (hsize.trans hml.symm) (argsL := As) (rest := rest) (fun sig h => hn.trans (hlen sig h)) hstack hW (by rw [hb]; exact hdg)
    (fun vm₁ hW₁ => ⟨hf.1, hf.2, hp.2 (T.setVm vm₁) hT hW₁⟩)
  dsimp only [Pt.U, Pt.locs, Pt.cells, Pt.slots] at X' e1 e2 h1 h2 h3 st
  subst h1; subst h2; subst h3
  exact ⟨v, (T.setVm vm₁).calling g' mk As.toArray, t, U', L, hT, X', hL, e1, e2, hq, st⟩
/-- not caught here, past rows that name other classes: it goes on to the caller -/
theorem vx_outP {p : Program} {l : Launch} {e : Env} {R : Room} {s : State} {m : MethodId} {args : Array Value} {below : List Frame} {meth : Method} {c : Code} {H : Heap} {locs : List Loc} {cells slots : Nat} {free : Addr → Prop} {ls : Array Slot} {rest : List Value} {Qc : Array Value → State → Outcome → State → Prop} {XC : String → State → State → Prop}
    {pc : Nat} {own E : String} {ce : Cell} {q : Addr} {mc ms : Nat} (hown : s.vm.findClass own = some m.cls) (hlocks : meth.locks = false)
    (hpass : ∀ z ∈ c.exceptionTable.toList, covers z pc = false ∨ (z.catchType ≠ 0 ∧ ∃ nm : String, (Cond.classLink own z.catchType nm).before args s = true ∧ va_Nc E nm s)) (hcell : H[q]? = some ce) (hv : ce.vm = .none) (hcl : s.vm.findClass E = some ce.cls)
    (hx : ∀ t : State, t.heap = H → s.vm.Alike t.vm → XC E s t) (hf : ∀ z ∈ locs, free z.base) (hc : cells ≤ mc) (hs : slots ≤ ms) :
    vx_W p l e R s m args below meth c H locs cells slots (vx_MQ below Qc XC args s mc ms free) (F0 m pc ls rest) q := by
  intro T hT X
  have hpl : e.platform.magicAccessors = ({} : Platform).magicAccessors := by rw [X.admits.platform]
  obtain ⟨vm', hW', X', st⟩ := X.outThrough hlocks q (g := F0 m pc ls rest) rfl rfl rfl (cell := ce) (by rw [hT]; exact hcell) (by rw [hv]; rfl)
    (by obtain ⟨k9, h9, -⟩ := Vm.findClass_spec hcl; exact ⟨k9, h9⟩) (fun z hz => by
      rcases hpass z hz with h | ⟨hz0, nm, hl1, hn1⟩
      · exact Or.inl h
      · obtain ⟨c6, hc6, hcl6⟩ := Cond.classLink_spec hown hl1 e.platform hpl
        obtain ⟨a8, b8, h1, h2, h3⟩ := hn1
        cases Option.some.inj (h1.symm.trans hcl)
        cases Option.some.inj (h2.symm.trans hc6)
        exact Or.inr ⟨hz0, _, hcl6, h3⟩)
  obtain ⟨g₀, hfr⟩ := X'.frames_eq
  have hcell9 : ((T.setVm vm').setFrames (.throwing q :: below)).heap[q]? = some ce := by
    show T.heap[q]? = some ce
    rw [hT]; exact hcell
  have hend : Ended ((T.setVm vm').setFrames (.throwing q :: below)) below (.threw q) := State.frames_setFrames _ (State.cur_lt_of_frames hfr)
  refine ⟨(T.setVm vm').setFrames (.throwing q :: below), ?_, .threw q, X'.here.running, hend, Or.inr ⟨q, rfl, E, ce, locs, hx _ hT (X'.ends _).1.alike, hcell9, hv, hcl, (X'.ends _).1, (X'.ends _).2.mono hc hs, hf⟩⟩
  rw [X.pushThrowing_eq]
  exact st
/-- a thing of a world lies in the heap -/
theorem vx_lt {D : va_G} {cl : List vw_C} {ws : va_W} {H1 : Heap} (h : va_P D cl ws H1) {k : Nat} {q : Nat × va_E} (hk : ws[k]? = some q) : q.1 < H1.size := (h k q hk).lt
end VXS
/-! ===== END ===== -/
/-! ===== BEGIN methods with a table of their own: called by a name, returning or throwing ===== -/
section VXH
/-! vx_backW, vx_callVX, vx_callSX, vx_callVW, vx_runVW, vx_runVX, vx_runSX, vx_ofWH follow the same proofs as their sisters above (Free/Laws.lean, Shelf42/LK1.lean); vx_outP calls Shelf42/NT130.lean (outThrough). -/
section
variable {l : Launch} {R : Room} {p : Program} {e : Env} {below : List Frame} {s : State} {sargs : Array Value} {y : MethodName} {len W9 : Nat}
theorem vx_backW {ws : List Cond} {rm : Room} {Pc : Array Value → State → Prop} {Qc : Array Value → State → Outcome → State → Prop} {XC : String → State → State → Prop} {mc ms : Nat} {free : Addr → Prop} {bytes : ByteArray} {maxL : Nat} {ret : Option FieldType} {hh : List (Nat × Nat × Nat × Nat)}
    (hM : vx_Met l y ws rm Pc Qc XC mc ms free) (hblind : FrameBlind Pc) (hrc : rm.cells = mc) (hrs : rm.slots = ms)
    (hframes : rm.frames + 1 ≤ R.frames) (hlocals : W9 + (maxL + 11) + rm.locals ≤ R.locals)
    (hws : ∀ w ∈ ws, ∀ a' U, s.WarmedH U.vm → w.before a' U = true) (hcode : Cond.codeWith y bytes maxL ret hh ∈ ws) (hinit : ∀ a' U, s.WarmedH U.vm → (Cond.initialized y.cls).before a' U = true) :
    vx_Back l R p e below s sargs y len W9 (PreOf R mc ms Pc) (PostOf Qc mc ms free) (vx_Post XC mc ms free) := by
  intro m meth c A g ig mk a X hg hsize hdg hW hn hp
  have h1 : (headSpec ws rm).pre.before a A.U = true := atoms_intro fun w hw => hws w hw _ _ X.warmed
  have h2 : (Cond.codeWith y bytes maxL ret hh).before a A.U = true := hws _ hcode _ _ X.warmed
  have h3 : (Cond.initialized y.cls).before a A.U = true := hinit _ _ X.warmed
  have h4 : A.cells + (headSpec ws rm).room.cells ≤ R.cells := by rw [show (headSpec ws rm).room.cells = mc from hrc]; exact hp.1
  have h5 : A.slots + (headSpec ws rm).room.slots ≤ R.slots := by rw [show (headSpec ws rm).room.slots = ms from hrs]; exact hp.2.1
  have hPc : Pc a (A.U.calling g mk a) := hblind _ _ _ _ hp.2.2
  obtain ⟨U, Ls, c0, s0⟩ := A
  dsimp only [Pt.U, Pt.locs, Pt.cells, Pt.slots] at h1 h2 h3 h4 h5 X hn hPc ⊢
  obtain ⟨m9, methY, cY, hn9, hmY, hcY, -, hlY, -⟩ := Cond.codeWith_spec h2
  cases Option.some.inj (hn9.symm.trans hn)
  obtain ⟨kY, hkY, -⟩ := className_of_methodNamed hn
  have hinitY : kY.init = .initialized := Cond.initialized_spec (findClass_of_methodNamed hn) hkY h3
  have h : At U g.method c below := by rw [hg]; exact X.here
  have hlocals9 : W9 + (maxL + 11) + (headSpec ws rm).room.locals ≤ R.locals := hlocals
  have happ : (headSpec ws rm).appliesLoose y e.platform (U.calling g mk a) = true :=
    Spec.appliesLoose_calling (g := g) h hdg hn hkY hinitY
      (X.room_calling (g := g) (R' := (headSpec ws rm).room) hsize hmY hcY hframes (by rw [hlY]; omega) h4 h5) h1
  obtain ⟨mid, hmid⟩ := h.above
  have hfr : (U.setTop g).frames = (.java g :: mid) ++ below := by rw [State.frames_setTop' g h.top, hmid]; rfl
  obtain ⟨o, s₂, hsteps, -, hend, hq⟩ := Steps.callFree hM p X.admits X.cas X.clock (acts := []) hfr happ hPc trivial
  have hq' : vx_Q Qc XC mc ms free a (U.calling g mk a) o s₂ := hq
  rw [State.frames_setTop' g h.top] at hend
  obtain ⟨g₀, hg0⟩ := Option.isSome_iff_exists.mp h.top
  obtain ⟨r, hr⟩ := State.topJava?_eq_some.mp hg0
  have hr' : (({ U with heap := s₂.heap, slotsUsed := s₂.slotsUsed } : State).setVm s₂.vm).frames = .java g₀ :: r := hr
  rcases hq' with ⟨hqc, L, hfe, hL⟩ | ⟨q, rfl, E, ce, L, hx, hce, hcv, hcl, hW₂, hsm, hL⟩
  · obtain ⟨⟨v, rfl⟩, hW₂, e2, q2, q3, q4, q5, q6⟩ := id hfe
    have e3 : s₂ = ({ (U.calling g mk a).setFrames s₂.frames with heap := s₂.heap, slotsUsed := s₂.slotsUsed } : State).setVm s₂.vm := by
      have : s₂ = ({ s₂ with vm := (U.calling g mk a).vm } : State).setVm s₂.vm := rfl
      rw [e2] at this
      exact this
    obtain ⟨c₂, i₂, len₂, hc₂, hd₂, hf₂⟩ := hend
    have hW' : U.WarmedH s₂.vm := hW₂
    have hcc : c₂ = c := by
      have h1 : s₂.code? g.method = U.code? g.method := by
        rw [State.code?_eq, State.code?_eq, hW'.alike.method?]
      exact Option.some.inj (hc₂.symm.trans (h1.trans h.code))
    subst hcc
    have hlen : len₂ = len := by rw [hdg] at hd₂; cases hd₂; rfl
    subst hlen
    have hs₂ : s₂ = (({ U with heap := s₂.heap, slotsUsed := s₂.slotsUsed } : State).setVm s₂.vm).setTop { g with pc := g.pc + len₂, stack := v.toList ++ g.stack } := by
      refine e3.trans ?_
      rw [hf₂, State.calling_eq h.top, State.setFrames_setFrames, State.setTop_of_frames _ hr', hr]
      rfl
    have hsame : U.sameButNew ({ U with heap := s₂.heap, slotsUsed := s₂.slotsUsed } : State) L mc ms := by
      refine ⟨?_, q2, q3, q4, q5, q6⟩
      obtain ⟨t, ht, -⟩ := State.frames_cons hr
      show ({ U with heap := s₂.heap, slotsUsed := s₂.slotsUsed } : State) = { U.setFrames U.frames with heap := s₂.heap, slotsUsed := s₂.slotsUsed }
      rw [State.setFrames_self ht]
    subst hg
    refine Or.inl ⟨v, ⟨(({ U with heap := s₂.heap, slotsUsed := s₂.slotsUsed } : State).setVm s₂.vm), Ls ++ L, c0 + mc, s0 + ms⟩,
      ⟨X.admits, X.cas, X.clock, X.frames, X.room, X.hears, X.method, X.code, (X.here.setHeapUsed s₂.heap s₂.slotsUsed).setVm hW'.alike, X.tail, State.WarmedH.trans X.warmed hW', X.limits, X.bytes, X.same.trans (hsame.setVm s.vm)⟩,
      ⟨g, mk, s₂, L, rfl, rfl, hqc, rfl, hL, rfl, rfl⟩, ?_⟩
    show Steps p.tables e below _ ((({ U with heap := s₂.heap, slotsUsed := s₂.slotsUsed } : State).setVm s₂.vm).setTop { g with pc := g.pc + len₂, stack := v.toList ++ g.stack })
    rw [← hs₂]
    exact hsteps
  · obtain ⟨e2, q2, q3, q4, q5, q6⟩ := id hsm
    have e3 : s₂ = ({ (U.calling g mk a).setFrames s₂.frames with heap := s₂.heap, slotsUsed := s₂.slotsUsed } : State).setVm s₂.vm := by
      have : s₂ = ({ s₂ with vm := (U.calling g mk a).vm } : State).setVm s₂.vm := rfl
      rw [e2] at this
      exact this
    have hf₂ : s₂.frames = .throwing q :: .java g :: U.frames.tail := hend
    have hW' : U.WarmedH s₂.vm := hW₂
    have hs₂ : s₂ = ((({ U with heap := s₂.heap, slotsUsed := s₂.slotsUsed } : State).setVm s₂.vm).setTop g).pushFrame (.throwing q) := by
      refine e3.trans ?_
      rw [hf₂, State.calling_eq h.top, State.setFrames_setFrames, State.pushFrame, State.frames_setTop _ hr', State.setTop_of_frames _ hr', State.setFrames_setFrames, hr]
      rfl
    have hsame : U.sameButNew ({ U with heap := s₂.heap, slotsUsed := s₂.slotsUsed } : State) L mc ms := by
      refine ⟨?_, q2, q3, q4, q5, q6⟩
      obtain ⟨t, ht, -⟩ := State.frames_cons hr
      show ({ U with heap := s₂.heap, slotsUsed := s₂.slotsUsed } : State) = { U.setFrames U.frames with heap := s₂.heap, slotsUsed := s₂.slotsUsed }
      rw [State.setFrames_self ht]
    subst hg
    refine Or.inr ⟨q, ⟨(({ U with heap := s₂.heap, slotsUsed := s₂.slotsUsed } : State).setVm s₂.vm), Ls ++ L, c0 + mc, s0 + ms⟩,
      ⟨X.admits, X.cas, X.clock, X.frames, X.room, X.hears, X.method, X.code, (X.here.setHeapUsed s₂.heap s₂.slotsUsed).setVm hW'.alike, X.tail, State.WarmedH.trans X.warmed hW', X.limits, X.bytes, X.same.trans (hsame.setVm s.vm)⟩,
      ⟨g, mk, s₂, L, E, ce, rfl, rfl, hx, hce, hcv, hcl, rfl, hL, rfl, rfl⟩, ?_⟩
    show Steps p.tables e below _ (((({ U with heap := s₂.heap, slotsUsed := s₂.slotsUsed } : State).setVm s₂.vm).setTop g).pushFrame (.throwing q))
    rw [← hs₂]
    exact hsteps
end
variable {p : Program} {l : Launch} {e : Env} {R : Room} {s : State} {m : MethodId} {args : Array Value} {below : List Frame} {meth : Method} {c : Code} {T : State} {H : Heap} {locs : List Loc} {cells slots : Nat}
theorem vx_callVX (X : Stand p l e R s m args below meth c T locs cells slots) (hexec : p.tables.exec = Jvm.exec) {own C : String} {index : Nat} {y : MethodName} {bytes : ByteArray} {maxL : Nat} {ret : Option FieldType} {hh : List (Nat × Nat × Nat × Nat)}
    (hown : s.vm.findClass own = some m.cls) (hlink : (Cond.methodLink own index y).before args s = true) (hinst : (Cond.instanceMethod y).before args s = true) (hsel : (Cond.selects C y y).before args s = true)
    (hcode : (Cond.codeWith y bytes maxL ret hh).before args s = true) (hy : y.cls ≠ "java/lang/invoke/MethodHandle" ∧ y.cls ≠ "java/lang/invoke/VarHandle")
    {W9 : Nat} {Pre : Pt → Array Value → Prop} {Post : Pt → Array Value → Option Value → Pt → Prop} {PostX : Pt → Array Value → Addr → Pt → Prop} (hK : vx_Back l R p e below s args y 3 W9 Pre Post PostX)
    {b : Addr} {cellB : Cell} (hcell : T.heap[b]? = some cellB) (hobj : cellB.vm.isStatics = false) (hcls : s.vm.findClass C = some cellB.cls)
    {g : JFrame} (hg : g.method = m) (hsize : g.locals.size = c.maxLocals) {argsL rest : List Value} (hlen : ∀ sig, parseMethodDescriptor y.desc = some sig → argsL.length = sig.parameters.length)
    (hstack : g.stack = argsL.reverse ++ .ref b :: rest) (hW : 2 * g.monitorRoom + (rest.map fun v => v.category).sum ≤ W9) (hdg : decode c.code g.pc = .ok (.invokevirtual index, 3))
    (hpre : ∀ vm₁, s.WarmedH vm₁ → Pre ⟨T.setVm vm₁, locs, cells, slots⟩ (Value.ref b :: argsL).toArray) :
    (∃ (v : Option Value) (vm₁ : Vm) (B : Pt), s.WarmedH vm₁ ∧ Stand p l e R s m args below meth c B.U B.locs B.cells B.slots ∧ Post ⟨T.setVm vm₁, locs, cells, slots⟩ (Value.ref b :: argsL).toArray v B ∧
      ∀ target, Steps p.tables e below (B.U.setTop { g with pc := g.pc + 3, stack := v.toList ++ rest }) target → Steps p.tables e below (T.setTop g) target) ∨
    (∃ (q : Addr) (vm₁ : Vm) (B : Pt), s.WarmedH vm₁ ∧ Stand p l e R s m args below meth c B.U B.locs B.cells B.slots ∧ PostX ⟨T.setVm vm₁, locs, cells, slots⟩ (Value.ref b :: argsL).toArray q B ∧
      Steps p.tables e below (T.setTop g) ((B.U.setTop { g with stack := rest }).pushFrame (.throwing q))) := by
  obtain ⟨mk, methM, hnamed, hmethM, hstM, habM⟩ := Cond.instanceMethod_spec hinst
  obtain ⟨m8, methM', cM, hn8, hmethM', -, -, -, -, -, -, hsigM⟩ := Cond.codeWith_spec hcode
  cases Option.some.inj (hn8.symm.trans hnamed)
  cases hmethM.symm.trans hmethM'
  obtain ⟨c2, r2, m2, q1, q2, q3, q4, kP, hkP, hkPi⟩ := Cond.selects_spec hsel
  cases hcls.symm.trans q1
  cases (State.methodFound?_of_named hnamed hy).symm.trans q2
  cases hnamed.symm.trans q3
  have hselP : selectMethod e.platform s.vm cellB.cls mk = .method mk := by rw [Launch.admits_selectMethod X.admits]; exact q4
  obtain ⟨vm₁, X₁, hstep₁⟩ := X.invokevirtual hexec hown hlink hnamed hmethM hstM hkP hkPi hy (a := b) (cell := cellB) hcell
    (fun z h => by rw [h] at hobj; cases hobj) hselP hmethM habM hkP hkPi (g := g) hg (argsL := argsL) (rest := rest) (hlen _ hsigM) hstack hdg
  rcases hK m meth c ⟨T.setVm vm₁, locs, cells, slots⟩ { g with stack := rest } (.invokevirtual index) mk (Value.ref b :: argsL).toArray X₁ hg hsize hdg hW (X₁.named hnamed) (hpre vm₁ X₁.warmed) with ⟨v, B, X', hpost, hsteps⟩ | ⟨q, B, X', hpost, hsteps⟩
  · exact Or.inl ⟨v, vm₁, B, X₁.warmed, X', hpost, fun target h => hstep₁ _ fun acts => by rw [doInvoke_state]; exact hsteps.trans h⟩
  · exact Or.inr ⟨q, vm₁, B, X₁.warmed, X', hpost, hstep₁ _ fun acts => by rw [doInvoke_state]; exact hsteps⟩
theorem vx_callSX (X : Stand p l e R s m args below meth c T locs cells slots) (hexec : p.tables.exec = Jvm.exec) {own : String} {index : Nat} {y : MethodName} {bytes : ByteArray} {maxL : Nat} {ret : Option FieldType} {hh : List (Nat × Nat × Nat × Nat)}
    (hown : s.vm.findClass own = some m.cls) (hlink : (Cond.methodLink own index y).before args s = true) (hstat : (Cond.static y).before args s = true) (hinit : (Cond.initialized y.cls).before args s = true)
    (hcode : (Cond.codeWith y bytes maxL ret hh).before args s = true) (hy : y.cls ≠ "java/lang/invoke/MethodHandle" ∧ y.cls ≠ "java/lang/invoke/VarHandle")
    {W9 : Nat} {Pre : Pt → Array Value → Prop} {Post : Pt → Array Value → Option Value → Pt → Prop} {PostX : Pt → Array Value → Addr → Pt → Prop} (hK : vx_Back l R p e below s args y 3 W9 Pre Post PostX)
    {g : JFrame} (hg : g.method = m) (hsize : g.locals.size = c.maxLocals) {argsL rest : List Value} (hlen : ∀ sig, parseMethodDescriptor y.desc = some sig → argsL.length = sig.parameters.length)
    (hstack : g.stack = argsL.reverse ++ rest) (hW : 2 * g.monitorRoom + (rest.map fun v => v.category).sum ≤ W9) (hdg : decode c.code g.pc = .ok (.invokestatic index, 3))
    (hpre : ∀ vm₁, s.WarmedH vm₁ → Pre ⟨T.setVm vm₁, locs, cells, slots⟩ argsL.toArray) :
    (∃ (v : Option Value) (vm₁ : Vm) (B : Pt), s.WarmedH vm₁ ∧ Stand p l e R s m args below meth c B.U B.locs B.cells B.slots ∧ Post ⟨T.setVm vm₁, locs, cells, slots⟩ argsL.toArray v B ∧
      ∀ target, Steps p.tables e below (B.U.setTop { g with pc := g.pc + 3, stack := v.toList ++ rest }) target → Steps p.tables e below (T.setTop g) target) ∨
    (∃ (q : Addr) (vm₁ : Vm) (B : Pt), s.WarmedH vm₁ ∧ Stand p l e R s m args below meth c B.U B.locs B.cells B.slots ∧ PostX ⟨T.setVm vm₁, locs, cells, slots⟩ argsL.toArray q B ∧
      Steps p.tables e below (T.setTop g) ((B.U.setTop { g with stack := rest }).pushFrame (.throwing q))) := by
  obtain ⟨mk, methM, cM, hnamed, hmethM, -, -, -, -, -, -, hsigM⟩ := Cond.codeWith_spec hcode
  have hstatic : methM.isStatic = true := Cond.static_spec hnamed hmethM hstat
  obtain ⟨kP, hkP, -⟩ := className_of_methodNamed hnamed
  have hinitP : kP.init = .initialized := Cond.initialized_spec (findClass_of_methodNamed hnamed) hkP hinit
  obtain ⟨vm₁, X₁, hstep₁⟩ := X.invokestatic hexec hown hlink hnamed hmethM hstatic hkP hinitP hy (g := g) hg (argsL := argsL) (rest := rest) (hlen _ hsigM) hstack hdg
  rcases hK m meth c ⟨T.setVm vm₁, locs, cells, slots⟩ { g with stack := rest } (.invokestatic index) mk argsL.toArray X₁ hg hsize hdg hW (X₁.named hnamed) (hpre vm₁ X₁.warmed) with ⟨v, B, X', hpost, hsteps⟩ | ⟨q, B, X', hpost, hsteps⟩
  · exact Or.inl ⟨v, vm₁, B, X₁.warmed, X', hpost, fun target h => hstep₁ _ fun acts => by rw [doInvoke_state]; exact hsteps.trans h⟩
  · exact Or.inr ⟨q, vm₁, B, X₁.warmed, X', hpost, hstep₁ _ fun acts => by rw [doInvoke_state]; exact hsteps⟩
theorem vx_callVW (X : Stand p l e R s m args below meth c T locs cells slots) (hexec : p.tables.exec = Jvm.exec) {own C : String} {index : Nat} {y : MethodName} {bytes : ByteArray} {maxL : Nat} {ret : Option FieldType} {hh : List (Nat × Nat × Nat × Nat)}
    (hown : s.vm.findClass own = some m.cls) (hlink : (Cond.methodLink own index y).before args s = true) (hinst : (Cond.instanceMethod y).before args s = true) (hsel : (Cond.selects C y y).before args s = true)
    (hcode : (Cond.codeWith y bytes maxL ret hh).before args s = true) (hy : y.cls ≠ "java/lang/invoke/MethodHandle" ∧ y.cls ≠ "java/lang/invoke/VarHandle")
    {W9 : Nat} {Pre : Pt → Array Value → Prop} {Post : Pt → Array Value → Option Value → Pt → Prop} (hK : Back l R p e below s args y 3 W9 Pre Post)
    {b : Addr} {cellB : Cell} (hcell : T.heap[b]? = some cellB) (hobj : cellB.vm.isStatics = false) (hcls : s.vm.findClass C = some cellB.cls)
    {g : JFrame} (hg : g.method = m) (hsize : g.locals.size = c.maxLocals) {argsL rest : List Value} (hlen : ∀ sig, parseMethodDescriptor y.desc = some sig → argsL.length = sig.parameters.length)
    (hstack : g.stack = argsL.reverse ++ .ref b :: rest) (hW : 2 * g.monitorRoom + (rest.map fun v => v.category).sum ≤ W9) (hdg : decode c.code g.pc = .ok (.invokevirtual index, 3))
    (hpre : ∀ vm₁, s.WarmedH vm₁ → Pre ⟨T.setVm vm₁, locs, cells, slots⟩ (Value.ref b :: argsL).toArray) :
    ∃ (v : Option Value) (vm₁ : Vm) (B : Pt), s.WarmedH vm₁ ∧ Stand p l e R s m args below meth c B.U B.locs B.cells B.slots ∧ Post ⟨T.setVm vm₁, locs, cells, slots⟩ (Value.ref b :: argsL).toArray v B ∧
      ∀ target, Steps p.tables e below (B.U.setTop { g with pc := g.pc + 3, stack := v.toList ++ rest }) target → Steps p.tables e below (T.setTop g) target := by
  obtain ⟨mk, methM, hnamed, hmethM, hstM, habM⟩ := Cond.instanceMethod_spec hinst
  obtain ⟨m8, methM', cM, hn8, hmethM', -, -, -, -, -, -, hsigM⟩ := Cond.codeWith_spec hcode
  cases Option.some.inj (hn8.symm.trans hnamed)
  cases hmethM.symm.trans hmethM'
  obtain ⟨c2, r2, m2, q1, q2, q3, q4, kP, hkP, hkPi⟩ := Cond.selects_spec hsel
  cases hcls.symm.trans q1
  cases (State.methodFound?_of_named hnamed hy).symm.trans q2
  cases hnamed.symm.trans q3
  have hselP : selectMethod e.platform s.vm cellB.cls mk = .method mk := by rw [Launch.admits_selectMethod X.admits]; exact q4
  obtain ⟨vm₁, X₁, hstep₁⟩ := X.invokevirtual hexec hown hlink hnamed hmethM hstM hkP hkPi hy (a := b) (cell := cellB) hcell
    (fun z h => by rw [h] at hobj; cases hobj) hselP hmethM habM hkP hkPi (g := g) hg (argsL := argsL) (rest := rest) (hlen _ hsigM) hstack hdg
  obtain ⟨v, B, X', hpost, hsteps⟩ := hK m meth c ⟨T.setVm vm₁, locs, cells, slots⟩ { g with stack := rest } (.invokevirtual index) mk (Value.ref b :: argsL).toArray X₁ hg hsize hdg hW (X₁.named hnamed) (hpre vm₁ X₁.warmed)
  exact ⟨v, vm₁, B, X₁.warmed, X', hpost, fun target h => hstep₁ _ fun acts => by rw [doInvoke_state]; exact hsteps.trans h⟩
abbrev vx_CVW (R : Room) (s : State) (args : Array Value) (own C : String) (index : Nat) (y : MethodName) (bytes : ByteArray) (maxL : Nat) (ret : Option FieldType) (hh : List (Nat × Nat × Nat × Nat)) (ws : List Cond) (rm : Room) (mc ms n : Nat) : Prop :=
  (rm.cells = mc ∧ rm.slots = ms ∧ rm.frames + 1 ≤ R.frames ∧ 8 + (maxL + 11) + rm.locals ≤ R.locals ∧ (∀ w ∈ ws, ∀ (a' : Array Value) (U : State), s.WarmedH U.vm → w.before a' U = true) ∧ Cond.codeWith y bytes maxL ret hh ∈ ws) ∧
  (Cond.codeWith y bytes maxL ret hh).before args s = true ∧ (Cond.initialized y.cls).before args s = true ∧ (y.cls ≠ "java/lang/invoke/MethodHandle" ∧ y.cls ≠ "java/lang/invoke/VarHandle") ∧
  (∀ sig, parseMethodDescriptor y.desc = some sig → n = sig.parameters.length) ∧ (Cond.methodLink own index y).before args s = true ∧ (Cond.instanceMethod y).before args s = true ∧ (Cond.selects C y y).before args s = true
theorem vx_cwVW {own C : String} {index maxL mc ms : Nat} {y : MethodName} {bytes : ByteArray} {ret : Option FieldType} {hh : List (Nat × Nat × Nat × Nat)} {Ts ws ws' : List Cond} {rm : Room} (n : Nat) (ht : ∀ w ∈ Ts, w.before args s = true) (hT : GoodIn Ts (wsV own index C y ws)) (hw : ws = Cond.codeWith y bytes maxL ret hh :: ws') (hrc : rm.cells = mc) (hrs : rm.slots = ms)
    (hd : y.cls = C ∧ y.cls ≠ "java/lang/invoke/MethodHandle" ∧ y.cls ≠ "java/lang/invoke/VarHandle" ∧ (parseMethodDescriptor y.desc).map (fun d => d.parameters.length) = some n) (hR : rm.frames + 1 ≤ R.frames ∧ 8 + (maxL + 11) + rm.locals ≤ R.locals) :
    vx_CVW R s args own C index y bytes maxL ret hh ws rm mc ms n := by
  obtain ⟨hC, hd⟩ := hd
  subst hC
  have ok : ∀ w ∈ wsV own index y.cls y ws, w.before args s = true := fun w h => ht w (hT w h).1
  have hG : GoodIn Ts ws := fun w h => hT w (by unfold wsV; exact List.mem_append_right _ h)
  have hc : Cond.codeWith y bytes maxL ret hh ∈ ws := by rw [hw]; exact List.mem_cons_self
  refine ⟨⟨hrc, hrs, hR.1, hR.2, pay_in ht hG, hc⟩, ht _ (hG _ hc).1, ok _ (by simp [wsV]), ⟨hd.1, hd.2.1⟩, fun sig h => ?_, ok _ (by simp [wsV]), ok _ (by simp [wsV]), ok _ (by simp [wsV])⟩
  have h2 := hd.2.2
  rw [h] at h2
  exact (Option.some.inj h2).symm
theorem vx_runVW {y : MethodName} {bytes cc : ByteArray} {maxL nL mc ms n index : Nat} {ret : Option FieldType} {hh : List (Nat × Nat × Nat × Nat)} {ws : List Cond} {rm : Room} {Pc : Array Value → State → Prop} {Qc : Array Value → State → Outcome → State → Prop} {free : Addr → Prop} {Ts : List Cond} {own C : String} {b : Addr} {As rest : List Value} {g : JFrame}
    (S : CallFix p m c cc nL s args Ts own) (hM : Met l y ws rm Pc Qc mc ms free) (cw : vx_CVW R s args own C index y bytes maxL ret hh ws rm mc ms n) (hp : PreV s H C b Pc As)
    (hg : g.method = m) (hn : As.length = n) (hsize : g.locals.size = nL) (hstack : g.stack = As.reverse ++ .ref b :: rest) (hW : 2 * g.monitorRoom + (rest.map fun v => v.category).sum ≤ 8) (hdg : decode cc g.pc = .ok (.invokevirtual index, 3)) (hf : cells + mc ≤ R.cells ∧ slots + ms ≤ R.slots) :
    va_Run p l e R s m args below meth c H locs cells slots mc ms g rest (Qc (Value.ref b :: As).toArray) free := by
  obtain ⟨⟨hrc, hrs, hfr, hlo, hws, hcw⟩, hcode, hini, hy, hlen, hl, hin, hse⟩ := cw
  have hK : Back l R p e below s args y 3 8 (PreOf R mc ms Pc) (PostOf Qc mc ms free) := va_backW (hh := hh) (bytes := bytes) (maxL := maxL) (ret := ret) hM hp.1 hrc hrs hfr hlo hws hcw (fun a' U hW => word_at hW (Or.inl (by first | rfl | simp [Cond.onTables, Cond.keeps, Cond.steady])) hini)
  obtain ⟨hx, hb, hml, ho, -⟩ := S
  obtain ⟨-, ⟨cellB, hcB, hoB, hclB⟩, hPc⟩ := hp
  intro T hT X
  obtain ⟨v, vm₁, ⟨U', l2, c2, s2⟩, hW₁, X', ⟨g', mk, t, L, e1, e2, hq, h1, hL, h2, h3⟩, st⟩ := vx_callVW X hx (C := C) (hh := hh) (bytes := bytes) (maxL := maxL) (ret := ret) ho hl hin hse hcode hy hK (by rw [hT]; exact hcB) hoB hclB hg (hsize.trans hml.symm) (argsL := As) (rest := rest) (fun sig h => hn.trans (hlen sig h)) hstack hW (by rw [hb]; exact hdg)
    (fun vm₁ hW₁ => ⟨hf.1, hf.2, hPc (T.setVm vm₁) hT hW₁⟩)
  dsimp only [Pt.U, Pt.locs, Pt.cells, Pt.slots] at X' e1 e2 h1 h2 h3 st
  subst h1; subst h2; subst h3
  exact ⟨v, (T.setVm vm₁).calling g' mk (Value.ref b :: As).toArray, t, U', L, hT, X', hL, e1, e2, hq, st⟩
section
variable {y : MethodName} {bytes cc : ByteArray} {maxL nL mc ms n index : Nat} {ret : Option FieldType} {ws : List Cond} {rm : Room} {Pc : Array Value → State → Prop} {Qc : Array Value → State → Outcome → State → Prop} {XC : String → State → State → Prop} {free : Addr → Prop} {Ts : List Cond} {own C : String} {b : Addr} {As rest : List Value} {g : JFrame}
theorem vx_runVX {hh : List (Nat × Nat × Nat × Nat)} (S : CallFix p m c cc nL s args Ts own) (hM : vx_Met l y ws rm Pc Qc XC mc ms free) (cw : vx_CVW R s args own C index y bytes maxL ret hh ws rm mc ms n) (hp : PreV s H C b Pc As)
    (hg : g.method = m) (hn : As.length = n) (hsize : g.locals.size = nL) (hstack : g.stack = As.reverse ++ .ref b :: rest) (hW : 2 * g.monitorRoom + (rest.map fun v => v.category).sum ≤ 8) (hdg : decode cc g.pc = .ok (.invokevirtual index, 3)) (hf : cells + mc ≤ R.cells ∧ slots + ms ≤ R.slots) :
    vx_Run p l e R s m args below meth c H locs cells slots mc ms g rest (Qc (Value.ref b :: As).toArray) XC free := by
  obtain ⟨⟨hrc, hrs, hfr, hlo, hws, hcw⟩, hcode, hini, hy, hlen, hl, hin, hse⟩ := cw
  have hK : vx_Back l R p e below s args y 3 8 (PreOf R mc ms Pc) (PostOf Qc mc ms free) (vx_Post XC mc ms free) := vx_backW (hh := hh) (bytes := bytes) (maxL := maxL) (ret := ret) hM hp.1 hrc hrs hfr hlo hws hcw (fun a' U hW => word_at hW (Or.inl (by first | rfl | simp [Cond.onTables, Cond.keeps, Cond.steady])) hini)
  obtain ⟨hx, hb, hml, ho, -⟩ := S
  obtain ⟨-, ⟨cellB, hcB, hoB, hclB⟩, hPc⟩ := hp
  intro T hT X
  rcases vx_callVX X hx (C := C) (hh := hh) (bytes := bytes) (maxL := maxL) (ret := ret) ho hl hin hse hcode hy hK (by rw [hT]; exact hcB) hoB hclB hg (hsize.trans hml.symm) (argsL := As) (rest := rest) (fun sig h => hn.trans (hlen sig h)) hstack hW (by rw [hb]; exact hdg)
    (fun vm₁ hW₁ => ⟨hf.1, hf.2, hPc (T.setVm vm₁) hT hW₁⟩) with ⟨v, vm₁, ⟨U', l2, c2, s2⟩, hW₁, X', ⟨g', mk, t, L, e1, e2, hq, h1, hL, h2, h3⟩, st⟩ | ⟨q, vm₁, ⟨U', l2, c2, s2⟩, hW₁, X', ⟨g', mk, t, L, E, ce, e1, e2, hq, hce, hcv, hcl, h1, hL, h2, h3⟩, st⟩
  · dsimp only [Pt.U, Pt.locs, Pt.cells, Pt.slots] at X' e1 e2 h1 h2 h3 st
    subst h1; subst h2; subst h3
    exact Or.inl ⟨v, (T.setVm vm₁).calling g' mk (Value.ref b :: As).toArray, t, U', L, hT, X', hL, e1, e2, hq, st⟩
  · dsimp only [Pt.U, Pt.locs, Pt.cells, Pt.slots] at X' e1 e2 h1 h2 h3 st hcl
    subst h1; subst h2; subst h3
    exact Or.inr ⟨q, (T.setVm vm₁).calling g' mk (Value.ref b :: As).toArray, t, U', L, E, ce, hT, X', hL, e1, e2, hq, hce, hcv, vx_cls hW₁ hcl, st⟩
theorem vx_runSX {hh : List (Nat × Nat × Nat × Nat)} (S : CallFix p m c cc nL s args Ts own) (hM : vx_Met l y ws rm Pc Qc XC mc ms free) (cw : vx_CSW R s args own index y bytes maxL ret hh ws rm mc ms n) (hp : PreS s H Pc As)
    (hg : g.method = m) (hn : As.length = n) (hsize : g.locals.size = nL) (hstack : g.stack = As.reverse ++ rest) (hW : 2 * g.monitorRoom + (rest.map fun v => v.category).sum ≤ 8) (hdg : decode cc g.pc = .ok (.invokestatic index, 3)) (hf : cells + mc ≤ R.cells ∧ slots + ms ≤ R.slots) :
    vx_Run p l e R s m args below meth c H locs cells slots mc ms g rest (Qc As.toArray) XC free := by
  obtain ⟨⟨hrc, hrs, hfr, hlo, hws, hcw⟩, hcode, hini, hy, hlen, hl, hstt⟩ := cw
  have hK : vx_Back l R p e below s args y 3 8 (PreOf R mc ms Pc) (PostOf Qc mc ms free) (vx_Post XC mc ms free) := vx_backW (hh := hh) (bytes := bytes) (maxL := maxL) (ret := ret) hM hp.1 hrc hrs hfr hlo hws hcw (fun a' U hW => word_at hW (Or.inl (by first | rfl | simp [Cond.onTables, Cond.keeps, Cond.steady])) hini)
  obtain ⟨hx, hb, hml, ho, -⟩ := S
  intro T hT X
  rcases vx_callSX X hx (hh := hh) (bytes := bytes) (maxL := maxL) (ret := ret) ho hl hstt hini hcode hy hK hg (hsize.trans hml.symm) (argsL := As) (rest := rest) (fun sig h => hn.trans (hlen sig h)) hstack hW (by rw [hb]; exact hdg)
    (fun vm₁ hW₁ => ⟨hf.1, hf.2, hp.2 (T.setVm vm₁) hT hW₁⟩) with ⟨v, vm₁, ⟨U', l2, c2, s2⟩, hW₁, X', ⟨g', mk, t, L, e1, e2, hq, h1, hL, h2, h3⟩, st⟩ | ⟨q, vm₁, ⟨U', l2, c2, s2⟩, hW₁, X', ⟨g', mk, t, L, E, ce, e1, e2, hq, hce, hcv, hcl, h1, hL, h2, h3⟩, st⟩
  · dsimp only [Pt.U, Pt.locs, Pt.cells, Pt.slots] at X' e1 e2 h1 h2 h3 st
    subst h1; subst h2; subst h3
    exact Or.inl ⟨v, (T.setVm vm₁).calling g' mk As.toArray, t, U', L, hT, X', hL, e1, e2, hq, st⟩
  · dsimp only [Pt.U, Pt.locs, Pt.cells, Pt.slots] at X' e1 e2 h1 h2 h3 st hcl
    subst h1; subst h2; subst h3
    exact Or.inr ⟨q, (T.setVm vm₁).calling g' mk As.toArray, t, U', L, E, ce, hT, X', hL, e1, e2, hq, hce, hcv, vx_cls hW₁ hcl, st⟩
end
end VXH
theorem vx_ofWH {l : Launch} {y : MethodName} {ws ws' : List Cond} {rm : Room} {Pc : Array Value → State → Prop} {Qc : Array Value → State → Outcome → State → Prop} {XC : String → State → State → Prop} {mc ms : Nat} {free : Addr → Prop} {cc : ByteArray} {maxL : Nat} {ret : Option FieldType} {hh : List (Nat × Nat × Nat × Nat)}
    (hy : plainName y.cls = true) (hw : ws = Cond.codeWith y cc maxL ret hh :: ws')
    (body : ∀ p e s m args below meth c s₁, BodyLoose p l y (headSpec ws rm) cc maxL ret e s m args below meth c s₁ → c.maxLocals = maxL → Pc args s →
      W p l e (headSpec ws rm).room s m args below meth c s.heap [] 0 0 (vx_MQ below Qc XC args s mc ms free) (entryFrame m args maxL)) : vx_Met l y ws rm Pc Qc XC mc ms free := by
  refine MetFree.of_bodyS (code := cc) (maxLocals := maxL) (ret := ret) hy ?_ ?_
  · intro args s m h hn
    obtain ⟨m9, meth, c, hn9, h1, h2, h3, h4, -, h5, h6, -⟩ := Cond.codeWith_spec (atoms_spec (ws := ws) h _ (by rw [hw]; exact List.mem_cons_self))
    cases hn.symm.trans hn9
    exact ⟨meth, c, h1, h2, h3, h4, h5, h6⟩
  · intro p e s m args below meth c s₁ B hml hP _
    have hh0 : s₁.heap = s.heap := by rw [B.state]; rfl
    obtain ⟨t, a1, o, b1, b2, b3⟩ := body p e s m args below meth c s₁ B hml hP s₁ hh0 (Stand.of_body B)
    exact ⟨t, o, a1, b1, b2, b3⟩
/-! ===== END ===== -/
end
section
/-! ===== BEGIN printed: names, fields, word lists, decode rows ===== -/
def RX0 : String := "TapePrinter$Row"
def TX0 : u_T := fun k => match k with
  | 0 => ("TapePrinter$Row", "values", "[I", true)
  | _ => ("TapePrinter$Row", "size", "I", false)
def tyX0 : Nat → FieldType := fun k => match k with
  | 0 => .array .int
  | _ => .int
abbrev wsX00 : List Cond := u_ws RX0 TX0 2
theorem nmX0 : ∀ a, a < 2 → ∀ b, b < 2 → a ≠ b → (TX0 a).2.1 ≠ (TX0 b).2.1 := by decide +kernel
theorem tyX0_ok : ∀ k, k < 2 → parseFieldDescriptor (TX0 k).2.2.1 = some (tyX0 k) := by decide +kernel
abbrev cX0_init : ByteArray := prog_2_method_1_code
def yX0_init : MethodName := ⟨RX0, "<init>", "(I)V"⟩
abbrev cX0_size : ByteArray := prog_2_method_2_code
def yX0_size : MethodName := ⟨RX0, "size", "()I"⟩
abbrev cX0_room : ByteArray := prog_2_method_3_code
def yX0_room : MethodName := ⟨RX0, "room", "()I"⟩
abbrev cX0_has : ByteArray := prog_2_method_4_code
def yX0_has : MethodName := ⟨RX0, "has", "(I)Z"⟩
abbrev cX0_at : ByteArray := prog_2_method_5_code
def yX0_at : MethodName := ⟨RX0, "at", "(I)I"⟩
abbrev cX0_change : ByteArray := prog_2_method_6_code
def yX0_change : MethodName := ⟨RX0, "change", "(II)V"⟩
abbrev cX0_add : ByteArray := prog_2_method_7_code
def yX0_add : MethodName := ⟨RX0, "add", "(I)Z"⟩
abbrev cX0_clear : ByteArray := prog_2_method_8_code
def yX0_clear : MethodName := ⟨RX0, "clear", "()V"⟩
def RX1 : String := "TapePrinter$Sheet"
def TX1 : u_T := fun k => match k with
  | 0 => ("TapePrinter$Sheet", "rows", "[LTapePrinter$Row;", true)
  | 1 => ("TapePrinter$Sheet", "first", "I", false)
  | _ => ("TapePrinter$Sheet", "used", "I", false)
def tyX1 : Nat → FieldType := fun k => match k with
  | 0 => .array (.object "TapePrinter$Row")
  | 1 => .int
  | _ => .int
abbrev wsX10 : List Cond := u_ws RX1 TX1 3
theorem nmX1 : ∀ a, a < 3 → ∀ b, b < 3 → a ≠ b → (TX1 a).2.1 ≠ (TX1 b).2.1 := by decide +kernel
theorem tyX1_ok : ∀ k, k < 3 → parseFieldDescriptor (TX1 k).2.2.1 = some (tyX1 k) := by decide +kernel
abbrev cX1_init : ByteArray := prog_3_method_1_code
def yX1_init : MethodName := ⟨RX1, "<init>", "()V"⟩
abbrev cX1_lines : ByteArray := prog_3_method_2_code
def yX1_lines : MethodName := ⟨RX1, "lines", "()I"⟩
abbrev cX1_row : ByteArray := prog_3_method_3_code
def yX1_row : MethodName := ⟨RX1, "row", "(I)LTapePrinter$Row;"⟩
abbrev cX1_add : ByteArray := prog_3_method_4_code
def yX1_add : MethodName := ⟨RX1, "add", "(I)Z"⟩
abbrev cX1_beginLine : ByteArray := prog_3_method_5_code
def yX1_beginLine : MethodName := ⟨RX1, "beginLine", "()V"⟩
abbrev cX1_characters : ByteArray := prog_3_method_6_code
def yX1_characters : MethodName := ⟨RX1, "characters", "()I"⟩
def RX2 : String := "TapePrinter$Wire"
def TX2 : u_T := fun k => match k with
  | 0 => ("TapePrinter$Wire", "late", "LTapePrinter$Row;", true)
  | 1 => ("TapePrinter$Wire", "garbled", "LTapePrinter$Row;", true)
  | _ => ("TapePrinter$Wire", "play", "I", false)
def tyX2 : Nat → FieldType := fun k => match k with
  | 0 => .object "TapePrinter$Row"
  | 1 => .object "TapePrinter$Row"
  | _ => .int
abbrev wsX20 : List Cond := u_ws RX2 TX2 3
theorem nmX2 : ∀ a, a < 3 → ∀ b, b < 3 → a ≠ b → (TX2 a).2.1 ≠ (TX2 b).2.1 := by decide +kernel
theorem tyX2_ok : ∀ k, k < 3 → parseFieldDescriptor (TX2 k).2.2.1 = some (tyX2 k) := by decide +kernel
abbrev cX2_init : ByteArray := prog_4_method_1_code
def yX2_init : MethodName := ⟨RX2, "<init>", "()V"⟩
abbrev cX2_play : ByteArray := prog_4_method_2_code
def yX2_play : MethodName := ⟨RX2, "play", "()I"⟩
abbrev cX2_changePlay : ByteArray := prog_4_method_3_code
def yX2_changePlay : MethodName := ⟨RX2, "changePlay", "(I)V"⟩
abbrev cX2_lateAt : ByteArray := prog_4_method_4_code
def yX2_lateAt : MethodName := ⟨RX2, "lateAt", "(I)I"⟩
abbrev cX2_garbledAt : ByteArray := prog_4_method_5_code
def yX2_garbledAt : MethodName := ⟨RX2, "garbledAt", "(I)I"⟩
abbrev cX2_change : ByteArray := prog_4_method_6_code
def yX2_change : MethodName := ⟨RX2, "change", "(III)V"⟩
abbrev cX2_readAs : ByteArray := prog_4_method_7_code
def yX2_readAs : MethodName := ⟨RX2, "readAs", "(II)I"⟩
def RX3 : String := "TapePrinter"
def TX3 : u_T := fun k => match k with
  | 0 => ("TapePrinter", "wire", "LTapePrinter$Wire;", true)
  | 1 => ("TapePrinter", "sheet", "LTapePrinter$Sheet;", true)
  | 2 => ("TapePrinter", "strip", "LTapePrinter$Row;", true)
  | 3 => ("TapePrinter", "reader", "I", false)
  | 4 => ("TapePrinter", "figures", "Z", false)
  | 5 => ("TapePrinter", "unshifts", "Z", false)
  | 6 => ("TapePrinter", "came", "I", false)
  | 7 => ("TapePrinter", "misread", "I", false)
  | 8 => ("TapePrinter", "lost", "I", false)
  | _ => ("TapePrinter", "bells", "I", false)
def tyX3 : Nat → FieldType := fun k => match k with
  | 0 => .object "TapePrinter$Wire"
  | 1 => .object "TapePrinter$Sheet"
  | 2 => .object "TapePrinter$Row"
  | 3 => .int
  | 4 => .boolean
  | 5 => .boolean
  | 6 => .int
  | 7 => .int
  | 8 => .int
  | _ => .int
abbrev wsX30 : List Cond := u_ws RX3 TX3 10
theorem nmX3 : ∀ a, a < 10 → ∀ b, b < 10 → a ≠ b → (TX3 a).2.1 ≠ (TX3 b).2.1 := by decide +kernel
theorem tyX3_ok : ∀ k, k < 10 → parseFieldDescriptor (TX3 k).2.2.1 = some (tyX3 k) := by decide +kernel
abbrev cX3_init : ByteArray := prog_1_method_1_code
def yX3_init : MethodName := ⟨RX3, "<init>", "()V"⟩
abbrev cX3_code : ByteArray := prog_1_method_2_code
def yX3_code : MethodName := ⟨RX3, "code", "(I)I"⟩
abbrev cX3_character : ByteArray := prog_1_method_3_code
def yX3_character : MethodName := ⟨RX3, "character", "(IZ)I"⟩
abbrev cX3_apart : ByteArray := prog_1_method_4_code
def yX3_apart : MethodName := ⟨RX3, "apart", "(II)I"⟩
abbrev cX3_doubts : ByteArray := prog_1_method_5_code
def yX3_doubts : MethodName := ⟨RX3, "doubts", "(I)I"⟩
abbrev cX3_setLine : ByteArray := prog_1_method_6_code
def yX3_setLine : MethodName := ⟨RX3, "setLine", "(III)I"⟩
abbrev cX3_setPlay : ByteArray := prog_1_method_7_code
def yX3_setPlay : MethodName := ⟨RX3, "setPlay", "(I)I"⟩
abbrev cX3_setUnshift : ByteArray := prog_1_method_8_code
def yX3_setUnshift : MethodName := ⟨RX3, "setUnshift", "(Z)Z"⟩
abbrev cX3_receive : ByteArray := prog_1_method_9_code
def yX3_receive : MethodName := ⟨RX3, "receive", "(I)I"⟩
abbrev cX3_punch : ByteArray := prog_1_method_10_code
def yX3_punch : MethodName := ⟨RX3, "punch", "(I)I"⟩
abbrev cX3_type : ByteArray := prog_1_method_11_code
def yX3_type : MethodName := ⟨RX3, "type", "(I)I"⟩
abbrev cX3_rub : ByteArray := prog_1_method_12_code
def yX3_rub : MethodName := ⟨RX3, "rub", "(I)I"⟩
abbrev cX3_run : ByteArray := prog_1_method_13_code
def yX3_run : MethodName := ⟨RX3, "run", "(I)I"⟩
abbrev cX3_wind : ByteArray := prog_1_method_14_code
def yX3_wind : MethodName := ⟨RX3, "wind", "(I)I"⟩
abbrev cX3_tape : ByteArray := prog_1_method_15_code
def yX3_tape : MethodName := ⟨RX3, "tape", "(I)I"⟩
abbrev cX3_page : ByteArray := prog_1_method_16_code
def yX3_page : MethodName := ⟨RX3, "page", "(II)I"⟩
abbrev cX3_length : ByteArray := prog_1_method_17_code
def yX3_length : MethodName := ⟨RX3, "length", "(I)I"⟩
abbrev cX3_count : ByteArray := prog_1_method_18_code
def yX3_count : MethodName := ⟨RX3, "count", "(I)I"⟩
abbrev cX3_would : ByteArray := prog_1_method_19_code
def yX3_would : MethodName := ⟨RX3, "would", "(I)I"⟩
abbrev cX3_wrong : ByteArray := prog_1_method_20_code
def yX3_wrong : MethodName := ⟨RX3, "wrong", "()I"⟩
abbrev cX3_idle : ByteArray := prog_1_method_21_code
def yX3_idle : MethodName := ⟨RX3, "idle", "()I"⟩
abbrev cX3_prints : ByteArray := prog_1_method_22_code
def yX3_prints : MethodName := ⟨RX3, "prints", "(I)I"⟩
abbrev cX3_mean : ByteArray := prog_1_method_23_code
def yX3_mean : MethodName := ⟨RX3, "mean", "()D"⟩
abbrev cX3_digest : ByteArray := prog_1_method_24_code
def yX3_digest : MethodName := ⟨RX3, "digest", "()J"⟩
abbrev cX3_mixed : ByteArray := prog_1_method_25_code
def yX3_mixed : MethodName := ⟨RX3, "mixed", "(JI)J"⟩
abbrev cX3_mixedRow : ByteArray := prog_1_method_26_code
def yX3_mixedRow : MethodName := ⟨RX3, "mixedRow", "(JLTapePrinter$Row;)J"⟩
abbrev cX3_counted : ByteArray := prog_1_method_27_code
def yX3_counted : MethodName := ⟨RX3, "counted", "(I)I"⟩
abbrev cX3_isCode : ByteArray := prog_1_method_28_code
def yX3_isCode : MethodName := ⟨RX3, "isCode", "(I)Z"⟩
abbrev cX3_isCharacter : ByteArray := prog_1_method_29_code
def yX3_isCharacter : MethodName := ⟨RX3, "isCharacter", "(I)Z"⟩
abbrev cX3_isFigure : ByteArray := prog_1_method_30_code
def yX3_isFigure : MethodName := ⟨RX3, "isFigure", "(I)Z"⟩
abbrev cX3_codeOf : ByteArray := prog_1_method_31_code
def yX3_codeOf : MethodName := ⟨RX3, "codeOf", "(I)I"⟩
abbrev cX3_characterOf : ByteArray := prog_1_method_32_code
def yX3_characterOf : MethodName := ⟨RX3, "characterOf", "(IZ)I"⟩
abbrev cX3_dependsOnShift : ByteArray := prog_1_method_33_code
def yX3_dependsOnShift : MethodName := ⟨RX3, "dependsOnShift", "(I)Z"⟩
abbrev cX3_characterInLetters : ByteArray := prog_1_method_34_code
def yX3_characterInLetters : MethodName := ⟨RX3, "characterInLetters", "(I)I"⟩
abbrev cX3_isShift : ByteArray := prog_1_method_35_code
def yX3_isShift : MethodName := ⟨RX3, "isShift", "(I)Z"⟩
abbrev cX3_figuresBehind : ByteArray := prog_1_method_36_code
def yX3_figuresBehind : MethodName := ⟨RX3, "figuresBehind", "(IZ)Z"⟩
abbrev cX3_shiftsToLetters : ByteArray := prog_1_method_37_code
def yX3_shiftsToLetters : MethodName := ⟨RX3, "shiftsToLetters", "(I)Z"⟩
abbrev cX3_figuresAhead : ByteArray := prog_1_method_38_code
def yX3_figuresAhead : MethodName := ⟨RX3, "figuresAhead", "(I)Z"⟩
abbrev cX3_figuresAtEnd : ByteArray := prog_1_method_39_code
def yX3_figuresAtEnd : MethodName := ⟨RX3, "figuresAtEnd", "()Z"⟩
abbrev cX3_servesBehind : ByteArray := prog_1_method_40_code
def yX3_servesBehind : MethodName := ⟨RX3, "servesBehind", "(I)Z"⟩
abbrev cX3_takeIn : ByteArray := prog_1_method_41_code
def yX3_takeIn : MethodName := ⟨RX3, "takeIn", "(I)I"⟩
abbrev cX3_obey : ByteArray := prog_1_method_42_code
def yX3_obey : MethodName := ⟨RX3, "obey", "(I)V"⟩
def RX4 : String := "TapePrinterModel"
def TX4 : u_T := fun k => match k with
  | 0 => ("TapePrinterModel", "thrown", "I", false)
  | 1 => ("TapePrinterModel", "isFigures", "Z", false)
  | 2 => ("TapePrinterModel", "unshifts", "Z", false)
  | 3 => ("TapePrinterModel", "play", "I", false)
  | 4 => ("TapePrinterModel", "lines", "I", false)
  | 5 => ("TapePrinterModel", "longs", "[I", true)
  | 6 => ("TapePrinterModel", "page", "[I", true)
  | 7 => ("TapePrinterModel", "lates", "[I", true)
  | 8 => ("TapePrinterModel", "garbles", "[I", true)
  | 9 => ("TapePrinterModel", "tape", "[I", true)
  | 10 => ("TapePrinterModel", "codes", "I", false)
  | 11 => ("TapePrinterModel", "reader", "I", false)
  | 12 => ("TapePrinterModel", "came", "I", false)
  | 13 => ("TapePrinterModel", "wrongly", "I", false)
  | 14 => ("TapePrinterModel", "lost", "I", false)
  | _ => ("TapePrinterModel", "rang", "I", false)
def tyX4 : Nat → FieldType := fun k => match k with
  | 0 => .int
  | 1 => .boolean
  | 2 => .boolean
  | 3 => .int
  | 4 => .int
  | 5 => .array .int
  | 6 => .array .int
  | 7 => .array .int
  | 8 => .array .int
  | 9 => .array .int
  | 10 => .int
  | 11 => .int
  | 12 => .int
  | 13 => .int
  | 14 => .int
  | _ => .int
abbrev wsX40 : List Cond := u_ws RX4 TX4 16
theorem nmX4 : ∀ a, a < 16 → ∀ b, b < 16 → a ≠ b → (TX4 a).2.1 ≠ (TX4 b).2.1 := by decide +kernel
theorem tyX4_ok : ∀ k, k < 16 → parseFieldDescriptor (TX4 k).2.2.1 = some (tyX4 k) := by decide +kernel
abbrev cX4_init : ByteArray := prog_6_method_1_code
def yX4_init : MethodName := ⟨RX4, "<init>", "()V"⟩
abbrev cX4_thrown : ByteArray := prog_6_method_2_code
def yX4_thrown : MethodName := ⟨RX4, "thrown", "()I"⟩
abbrev cX4_fail : ByteArray := prog_6_method_3_code
def yX4_fail : MethodName := ⟨RX4, "fail", "(I)I"⟩
abbrev cX4_isIn : ByteArray := prog_6_method_4_code
def yX4_isIn : MethodName := ⟨RX4, "isIn", "(III)Z"⟩
abbrev cX4_isCode : ByteArray := prog_6_method_5_code
def yX4_isCode : MethodName := ⟨RX4, "isCode", "(I)Z"⟩
abbrev cX4_isCharacter : ByteArray := prog_6_method_6_code
def yX4_isCharacter : MethodName := ⟨RX4, "isCharacter", "(I)Z"⟩
abbrev cX4_isType : ByteArray := prog_6_method_7_code
def yX4_isType : MethodName := ⟨RX4, "isType", "(I)Z"⟩
abbrev cX4_codeOf : ByteArray := prog_6_method_8_code
def yX4_codeOf : MethodName := ⟨RX4, "codeOf", "(I)I"⟩
abbrev cX4_characterOf : ByteArray := prog_6_method_9_code
def yX4_characterOf : MethodName := ⟨RX4, "characterOf", "(IZ)I"⟩
abbrev cX4_size : ByteArray := prog_6_method_10_code
def yX4_size : MethodName := ⟨RX4, "size", "(I)I"⟩
abbrev cX4_code : ByteArray := prog_6_method_11_code
def yX4_code : MethodName := ⟨RX4, "code", "(I)I"⟩
abbrev cX4_character : ByteArray := prog_6_method_12_code
def yX4_character : MethodName := ⟨RX4, "character", "(IZ)I"⟩
abbrev cX4_apart : ByteArray := prog_6_method_13_code
def yX4_apart : MethodName := ⟨RX4, "apart", "(II)I"⟩
abbrev cX4_doubts : ByteArray := prog_6_method_14_code
def yX4_doubts : MethodName := ⟨RX4, "doubts", "(I)I"⟩
abbrev cX4_setLine : ByteArray := prog_6_method_15_code
def yX4_setLine : MethodName := ⟨RX4, "setLine", "(III)I"⟩
abbrev cX4_setPlay : ByteArray := prog_6_method_16_code
def yX4_setPlay : MethodName := ⟨RX4, "setPlay", "(I)I"⟩
abbrev cX4_setUnshift : ByteArray := prog_6_method_17_code
def yX4_setUnshift : MethodName := ⟨RX4, "setUnshift", "(Z)Z"⟩
abbrev cX4_shift : ByteArray := prog_6_method_18_code
def yX4_shift : MethodName := ⟨RX4, "shift", "(ZI)Z"⟩
abbrev cX4_set : ByteArray := prog_6_method_19_code
def yX4_set : MethodName := ⟨RX4, "set", "(I)V"⟩
abbrev cX4_feed : ByteArray := prog_6_method_20_code
def yX4_feed : MethodName := ⟨RX4, "feed", "()V"⟩
abbrev cX4_print : ByteArray := prog_6_method_21_code
def yX4_print : MethodName := ⟨RX4, "print", "(I)V"⟩
abbrev cX4_read : ByteArray := prog_6_method_22_code
def yX4_read : MethodName := ⟨RX4, "read", "(II)I"⟩
abbrev cX4_come : ByteArray := prog_6_method_23_code
def yX4_come : MethodName := ⟨RX4, "come", "(I)I"⟩
abbrev cX4_receive : ByteArray := prog_6_method_24_code
def yX4_receive : MethodName := ⟨RX4, "receive", "(I)I"⟩
abbrev cX4_put : ByteArray := prog_6_method_25_code
def yX4_put : MethodName := ⟨RX4, "put", "(I)V"⟩
abbrev cX4_punch : ByteArray := prog_6_method_26_code
def yX4_punch : MethodName := ⟨RX4, "punch", "(I)I"⟩
abbrev cX4_shiftAt : ByteArray := prog_6_method_27_code
def yX4_shiftAt : MethodName := ⟨RX4, "shiftAt", "(I)Z"⟩
abbrev cX4_type : ByteArray := prog_6_method_28_code
def yX4_type : MethodName := ⟨RX4, "type", "(I)I"⟩
abbrev cX4_isPlace : ByteArray := prog_6_method_29_code
def yX4_isPlace : MethodName := ⟨RX4, "isPlace", "(I)Z"⟩
abbrev cX4_rub : ByteArray := prog_6_method_30_code
def yX4_rub : MethodName := ⟨RX4, "rub", "(I)I"⟩
abbrev cX4_run : ByteArray := prog_6_method_31_code
def yX4_run : MethodName := ⟨RX4, "run", "(I)I"⟩
abbrev cX4_wind : ByteArray := prog_6_method_32_code
def yX4_wind : MethodName := ⟨RX4, "wind", "(I)I"⟩
abbrev cX4_tape : ByteArray := prog_6_method_33_code
def yX4_tape : MethodName := ⟨RX4, "tape", "(I)I"⟩
abbrev cX4_isLine : ByteArray := prog_6_method_34_code
def yX4_isLine : MethodName := ⟨RX4, "isLine", "(I)Z"⟩
abbrev cX4_page : ByteArray := prog_6_method_35_code
def yX4_page : MethodName := ⟨RX4, "page", "(II)I"⟩
abbrev cX4_length : ByteArray := prog_6_method_36_code
def yX4_length : MethodName := ⟨RX4, "length", "(I)I"⟩
abbrev cX4_counted : ByteArray := prog_6_method_37_code
def yX4_counted : MethodName := ⟨RX4, "counted", "(I)I"⟩
abbrev cX4_count : ByteArray := prog_6_method_38_code
def yX4_count : MethodName := ⟨RX4, "count", "(I)I"⟩
abbrev cX4_would : ByteArray := prog_6_method_39_code
def yX4_would : MethodName := ⟨RX4, "would", "(I)I"⟩
abbrev cX4_wrong : ByteArray := prog_6_method_40_code
def yX4_wrong : MethodName := ⟨RX4, "wrong", "()I"⟩
abbrev cX4_isShift : ByteArray := prog_6_method_41_code
def yX4_isShift : MethodName := ⟨RX4, "isShift", "(I)Z"⟩
abbrev cX4_isIdle : ByteArray := prog_6_method_42_code
def yX4_isIdle : MethodName := ⟨RX4, "isIdle", "(I)Z"⟩
abbrev cX4_idle : ByteArray := prog_6_method_43_code
def yX4_idle : MethodName := ⟨RX4, "idle", "()I"⟩
abbrev cX4_prints : ByteArray := prog_6_method_44_code
def yX4_prints : MethodName := ⟨RX4, "prints", "(I)I"⟩
abbrev cX4_mean : ByteArray := prog_6_method_45_code
def yX4_mean : MethodName := ⟨RX4, "mean", "()D"⟩
abbrev cX4_digest : ByteArray := prog_6_method_46_code
def yX4_digest : MethodName := ⟨RX4, "digest", "()J"⟩
def RJ6 : String := "java/lang/Integer"
def TJ6 : u_T := fun k => match k with
  | _ => ("", "", "", false)
def tyJ6 : Nat → FieldType := fun k => match k with
  | _ => .int
abbrev wsJ60 : List Cond := u_ws RJ6 TJ6 0
theorem nmJ6 : ∀ a, a < 0 → ∀ b, b < 0 → a ≠ b → (TJ6 a).2.1 ≠ (TJ6 b).2.1 := by decide +kernel
theorem tyJ6_ok : ∀ k, k < 0 → parseFieldDescriptor (TJ6 k).2.2.1 = some (tyJ6 k) := by decide +kernel
abbrev cJ6_bitCount_0f7a4 : ByteArray := prog_11_method_49_code
def yJ6_bitCount_0f7a4 : MethodName := ⟨RJ6, "bitCount", "(I)I"⟩
def RJ9 : String := "java/lang/Math"
def TJ9 : u_T := fun k => match k with
  | _ => ("", "", "", false)
def tyJ9 : Nat → FieldType := fun k => match k with
  | _ => .int
abbrev wsJ90 : List Cond := u_ws RJ9 TJ9 0
theorem nmJ9 : ∀ a, a < 0 → ∀ b, b < 0 → a ≠ b → (TJ9 a).2.1 ≠ (TJ9 b).2.1 := by decide +kernel
theorem tyJ9_ok : ∀ k, k < 0 → parseFieldDescriptor (TJ9 k).2.2.1 = some (tyJ9 k) := by decide +kernel
abbrev cJ9_min_7cf53 : ByteArray := prog_12_method_69_code
def yJ9_min_7cf53 : MethodName := ⟨RJ9, "min", "(II)I"⟩
def RJ0 : String := "java/lang/String"
def TJ0 : u_T := fun k => match k with
  | _ => ("", "", "", false)
def tyJ0 : Nat → FieldType := fun k => match k with
  | _ => .int
abbrev wsJ00 : List Cond := u_ws RJ0 TJ0 0
theorem nmJ0 : ∀ a, a < 0 → ∀ b, b < 0 → a ≠ b → (TJ0 a).2.1 ≠ (TJ0 b).2.1 := by decide +kernel
theorem tyJ0_ok : ∀ k, k < 0 → parseFieldDescriptor (TJ0 k).2.2.1 = some (tyJ0 k) := by decide +kernel
def RJ10 : String := "java/lang/System"
def TJ10 : u_T := fun k => match k with
  | _ => ("", "", "", false)
def tyJ10 : Nat → FieldType := fun k => match k with
  | _ => .int
abbrev wsJ100 : List Cond := u_ws RJ10 TJ10 0
theorem nmJ10 : ∀ a, a < 0 → ∀ b, b < 0 → a ≠ b → (TJ10 a).2.1 ≠ (TJ10 b).2.1 := by decide +kernel
theorem tyJ10_ok : ∀ k, k < 0 → parseFieldDescriptor (TJ10 k).2.2.1 = some (tyJ10 k) := by decide +kernel
def RL : String := "TapePrinterLaw"
abbrev cL_code : ByteArray := method_3_code
def yL_code : MethodName := ⟨RL, "code", "(LTapePrinter;I[J)I"⟩
abbrev cL_character : ByteArray := method_4_code
def yL_character : MethodName := ⟨RL, "character", "(LTapePrinter;IZ[J)I"⟩
abbrev cL_apart : ByteArray := method_5_code
def yL_apart : MethodName := ⟨RL, "apart", "(LTapePrinter;II[J)I"⟩
abbrev cL_doubts : ByteArray := method_6_code
def yL_doubts : MethodName := ⟨RL, "doubts", "(LTapePrinter;I[J)I"⟩
abbrev cL_setLine : ByteArray := method_7_code
def yL_setLine : MethodName := ⟨RL, "setLine", "(LTapePrinter;III[J)I"⟩
abbrev cL_setPlay : ByteArray := method_8_code
def yL_setPlay : MethodName := ⟨RL, "setPlay", "(LTapePrinter;I[J)I"⟩
abbrev cL_receive : ByteArray := method_9_code
def yL_receive : MethodName := ⟨RL, "receive", "(LTapePrinter;I[J)I"⟩
abbrev cL_punch : ByteArray := method_10_code
def yL_punch : MethodName := ⟨RL, "punch", "(LTapePrinter;I[J)I"⟩
abbrev cL_type : ByteArray := method_11_code
def yL_type : MethodName := ⟨RL, "type", "(LTapePrinter;I[J)I"⟩
abbrev cL_rub : ByteArray := method_12_code
def yL_rub : MethodName := ⟨RL, "rub", "(LTapePrinter;I[J)I"⟩
abbrev cL_run : ByteArray := method_13_code
def yL_run : MethodName := ⟨RL, "run", "(LTapePrinter;I[J)I"⟩
abbrev cL_wind : ByteArray := method_14_code
def yL_wind : MethodName := ⟨RL, "wind", "(LTapePrinter;I[J)I"⟩
abbrev cL_tape : ByteArray := method_15_code
def yL_tape : MethodName := ⟨RL, "tape", "(LTapePrinter;I[J)I"⟩
abbrev cL_page : ByteArray := method_16_code
def yL_page : MethodName := ⟨RL, "page", "(LTapePrinter;II[J)I"⟩
abbrev cL_length : ByteArray := method_17_code
def yL_length : MethodName := ⟨RL, "length", "(LTapePrinter;I[J)I"⟩
abbrev cL_count : ByteArray := method_18_code
def yL_count : MethodName := ⟨RL, "count", "(LTapePrinter;I[J)I"⟩
abbrev cL_would : ByteArray := method_19_code
def yL_would : MethodName := ⟨RL, "would", "(LTapePrinter;I[J)I"⟩
abbrev cL_prints : ByteArray := method_20_code
def yL_prints : MethodName := ⟨RL, "prints", "(LTapePrinter;I[J)I"⟩
abbrev cL_law : ByteArray := code
def yL_law : MethodName := ⟨RL, "law", "([I)Z"⟩
def wsX0_init : List Cond := .code yX0_init cX0_init 2 none :: ([.methodLink RX0 1 objectInit, .instanceMethod objectInit, .code objectInit ⟨#[0xb1]⟩ 1 none, .arrayClass .int, .fieldLink RX0 7 "TapePrinter$Row" "values" "[I"] ++ wsX00)
def wsX0_size : List Cond := .code yX0_size cX0_size 1 (some .int) :: ([.fieldLink RX0 13 "TapePrinter$Row" "size" "I"] ++ wsX00)
def wsX0_room : List Cond := .code yX0_room cX0_room 1 (some .int) :: ([.fieldLink RX0 7 "TapePrinter$Row" "values" "[I", .fieldLink RX0 13 "TapePrinter$Row" "size" "I"] ++ wsX00)
def wsX0_has : List Cond := .code yX0_has cX0_has 2 (some .boolean) :: ([.fieldLink RX0 13 "TapePrinter$Row" "size" "I", .fieldLink RX0 7 "TapePrinter$Row" "values" "[I"] ++ wsX00)
def wsX0_at : List Cond := .code yX0_at cX0_at 2 (some .int) :: ([.fieldLink RX0 7 "TapePrinter$Row" "values" "[I", .methodLink RX0 17 yX0_has, .instanceMethod yX0_has, .selects RX0 yX0_has yX0_has, .initialized RX0, .code yX0_has cX0_has 2 (some .boolean), .fieldLink RX0 13 "TapePrinter$Row" "size" "I"] ++ wsX00)
def wsX0_change : List Cond := .code yX0_change cX0_change 3 none :: ([.fieldLink RX0 7 "TapePrinter$Row" "values" "[I", .methodLink RX0 17 yX0_has, .instanceMethod yX0_has, .selects RX0 yX0_has yX0_has, .initialized RX0, .code yX0_has cX0_has 2 (some .boolean), .fieldLink RX0 13 "TapePrinter$Row" "size" "I"] ++ wsX00)
def wsX0_add : List Cond := .code yX0_add cX0_add 2 (some .boolean) :: ([.fieldLink RX0 13 "TapePrinter$Row" "size" "I", .fieldLink RX0 7 "TapePrinter$Row" "values" "[I"] ++ wsX00)
def wsX0_clear : List Cond := .code yX0_clear cX0_clear 1 none :: ([.fieldLink RX0 13 "TapePrinter$Row" "size" "I"] ++ wsX00)
def wsX1_init : List Cond := .code yX1_init cX1_init 2 none :: ([.methodLink RX1 3 objectInit, .instanceMethod objectInit, .code objectInit ⟨#[0xb1]⟩ 1 none, .classLink RX1 9 RX0, .fieldLink RX1 11 "TapePrinter$Sheet" "rows" "[LTapePrinter$Row;", .fieldLink RX1 17 "TapePrinter$Sheet" "used" "I", .instantiable RX0 2, .initialized RX0, .methodLink RX1 21 yX0_init, .instanceMethod yX0_init, .code yX0_init cX0_init 2 none, .methodLink RX0 1 objectInit, .arrayClass .int, .fieldLink RX0 7 "TapePrinter$Row" "values" "[I"] ++ wsX10 ++ wsX00)
def wsX1_lines : List Cond := .code yX1_lines cX1_lines 1 (some .int) :: ([.fieldLink RX1 17 "TapePrinter$Sheet" "used" "I"] ++ wsX10)
def wsX1_row : List Cond := .code yX1_row cX1_row 3 (some (.object "TapePrinter$Row")) :: ([.fieldLink RX1 17 "TapePrinter$Sheet" "used" "I", .fieldLink RX1 24 "TapePrinter$Sheet" "first" "I", .fieldLink RX1 11 "TapePrinter$Sheet" "rows" "[LTapePrinter$Row;"] ++ wsX10)
def wsX1_add : List Cond := .code yX1_add cX1_add 3 (some .boolean) :: ([.fieldLink RX1 17 "TapePrinter$Sheet" "used" "I", .methodLink RX1 27 yX1_row, .instanceMethod yX1_row, .selects RX1 yX1_row yX1_row, .initialized RX1, .code yX1_row cX1_row 3 (some (.object "TapePrinter$Row")), .fieldLink RX1 24 "TapePrinter$Sheet" "first" "I", .fieldLink RX1 11 "TapePrinter$Sheet" "rows" "[LTapePrinter$Row;", .methodLink RX1 31 yX0_add, .instanceMethod yX0_add, .selects RX0 yX0_add yX0_add, .initialized RX0, .code yX0_add cX0_add 2 (some .boolean), .fieldLink RX0 13 "TapePrinter$Row" "size" "I", .fieldLink RX0 7 "TapePrinter$Row" "values" "[I"] ++ wsX10 ++ wsX00)
def wsX1_beginLine : List Cond := .code yX1_beginLine cX1_beginLine 2 none :: ([.fieldLink RX1 17 "TapePrinter$Sheet" "used" "I", .fieldLink RX1 24 "TapePrinter$Sheet" "first" "I", .methodLink RX1 27 yX1_row, .instanceMethod yX1_row, .selects RX1 yX1_row yX1_row, .initialized RX1, .code yX1_row cX1_row 3 (some (.object "TapePrinter$Row")), .fieldLink RX1 11 "TapePrinter$Sheet" "rows" "[LTapePrinter$Row;", .methodLink RX1 35 yX0_clear, .instanceMethod yX0_clear, .selects RX0 yX0_clear yX0_clear, .initialized RX0, .code yX0_clear cX0_clear 1 none, .fieldLink RX0 13 "TapePrinter$Row" "size" "I"] ++ wsX10 ++ wsX00)
def wsX1_characters : List Cond := .code yX1_characters cX1_characters 4 (some .int) :: ([.fieldLink RX1 17 "TapePrinter$Sheet" "used" "I", .methodLink RX1 27 yX1_row, .instanceMethod yX1_row, .selects RX1 yX1_row yX1_row, .initialized RX1, .code yX1_row cX1_row 3 (some (.object "TapePrinter$Row")), .fieldLink RX1 24 "TapePrinter$Sheet" "first" "I", .fieldLink RX1 11 "TapePrinter$Sheet" "rows" "[LTapePrinter$Row;", .methodLink RX1 38 yX0_size, .instanceMethod yX0_size, .selects RX0 yX0_size yX0_size, .initialized RX0, .code yX0_size cX0_size 1 (some .int), .fieldLink RX0 13 "TapePrinter$Row" "size" "I"] ++ wsX10 ++ wsX00)
def wsX2_init : List Cond := .code yX2_init cX2_init 2 none :: ([.methodLink RX2 3 objectInit, .instanceMethod objectInit, .code objectInit ⟨#[0xb1]⟩ 1 none, .classLink RX2 9 RX0, .instantiable RX0 2, .initialized RX0, .fieldLink RX2 14 "TapePrinter$Wire" "late" "LTapePrinter$Row;", .fieldLink RX2 20 "TapePrinter$Wire" "garbled" "LTapePrinter$Row;", .methodLink RX2 11 yX0_init, .instanceMethod yX0_init, .code yX0_init cX0_init 2 none, .methodLink RX0 1 objectInit, .arrayClass .int, .fieldLink RX0 7 "TapePrinter$Row" "values" "[I", .methodLink RX2 23 yX0_add, .instanceMethod yX0_add, .selects RX0 yX0_add yX0_add, .code yX0_add cX0_add 2 (some .boolean), .fieldLink RX0 13 "TapePrinter$Row" "size" "I"] ++ wsX00 ++ wsX20)
def wsX2_play : List Cond := .code yX2_play cX2_play 1 (some .int) :: ([.fieldLink RX2 27 "TapePrinter$Wire" "play" "I"] ++ wsX20)
def wsX2_changePlay : List Cond := .code yX2_changePlay cX2_changePlay 2 none :: ([.fieldLink RX2 27 "TapePrinter$Wire" "play" "I"] ++ wsX20)
def wsX2_lateAt : List Cond := .code yX2_lateAt cX2_lateAt 2 (some .int) :: ([.fieldLink RX2 14 "TapePrinter$Wire" "late" "LTapePrinter$Row;", .methodLink RX2 31 yX0_at, .instanceMethod yX0_at, .selects RX0 yX0_at yX0_at, .initialized RX0, .code yX0_at cX0_at 2 (some .int), .fieldLink RX0 7 "TapePrinter$Row" "values" "[I", .methodLink RX0 17 yX0_has, .instanceMethod yX0_has, .selects RX0 yX0_has yX0_has, .code yX0_has cX0_has 2 (some .boolean), .fieldLink RX0 13 "TapePrinter$Row" "size" "I"] ++ wsX20 ++ wsX00)
def wsX2_garbledAt : List Cond := .code yX2_garbledAt cX2_garbledAt 2 (some .int) :: ([.fieldLink RX2 20 "TapePrinter$Wire" "garbled" "LTapePrinter$Row;", .methodLink RX2 31 yX0_at, .instanceMethod yX0_at, .selects RX0 yX0_at yX0_at, .initialized RX0, .code yX0_at cX0_at 2 (some .int), .fieldLink RX0 7 "TapePrinter$Row" "values" "[I", .methodLink RX0 17 yX0_has, .instanceMethod yX0_has, .selects RX0 yX0_has yX0_has, .code yX0_has cX0_has 2 (some .boolean), .fieldLink RX0 13 "TapePrinter$Row" "size" "I"] ++ wsX20 ++ wsX00)
def wsX2_change : List Cond := .code yX2_change cX2_change 4 none :: ([.fieldLink RX2 14 "TapePrinter$Wire" "late" "LTapePrinter$Row;", .fieldLink RX2 20 "TapePrinter$Wire" "garbled" "LTapePrinter$Row;", .methodLink RX2 35 yX0_change, .instanceMethod yX0_change, .selects RX0 yX0_change yX0_change, .initialized RX0, .code yX0_change cX0_change 3 none, .fieldLink RX0 7 "TapePrinter$Row" "values" "[I", .methodLink RX0 17 yX0_has, .instanceMethod yX0_has, .selects RX0 yX0_has yX0_has, .code yX0_has cX0_has 2 (some .boolean), .fieldLink RX0 13 "TapePrinter$Row" "size" "I"] ++ wsX20 ++ wsX00)
def wsX2_readAs : List Cond := .code yX2_readAs cX2_readAs 6 (some .int) :: ([.fieldLink RX2 20 "TapePrinter$Wire" "garbled" "LTapePrinter$Row;", .fieldLink RX2 14 "TapePrinter$Wire" "late" "LTapePrinter$Row;", .fieldLink RX2 27 "TapePrinter$Wire" "play" "I", .methodLink RX2 31 yX0_at, .instanceMethod yX0_at, .selects RX0 yX0_at yX0_at, .initialized RX0, .code yX0_at cX0_at 2 (some .int), .fieldLink RX0 7 "TapePrinter$Row" "values" "[I", .methodLink RX0 17 yX0_has, .instanceMethod yX0_has, .selects RX0 yX0_has yX0_has, .code yX0_has cX0_has 2 (some .boolean), .fieldLink RX0 13 "TapePrinter$Row" "size" "I"] ++ wsX20 ++ wsX00)
def wsX3_init_r1 : List Cond := [Cond.methodLink RX3 1 objectInit, Cond.instanceMethod objectInit, Cond.code objectInit ⟨#[0xb1]⟩ 1 none, Cond.classLink RX3 7 RX2, Cond.instantiable RX2 3, Cond.initialized RX2, Cond.fieldLink RX3 10 "TapePrinter" "wire" "LTapePrinter$Wire;", Cond.classLink RX3 16 RX1, Cond.instantiable RX1 3, Cond.initialized RX1, Cond.fieldLink RX3 19 "TapePrinter" "sheet" "LTapePrinter$Sheet;", Cond.classLink RX3 23 RX0, Cond.instantiable RX0 2, Cond.initialized RX0, Cond.fieldLink RX3 28 "TapePrinter" "strip" "LTapePrinter$Row;", Cond.methodLink RX3 9 yX2_init, Cond.instanceMethod yX2_init, Cond.code yX2_init cX2_init 2 none, Cond.methodLink RX2 3 objectInit, Cond.classLink RX2 9 RX0, Cond.fieldLink RX2 14 "TapePrinter$Wire" "late" "LTapePrinter$Row;", Cond.fieldLink RX2 20 "TapePrinter$Wire" "garbled" "LTapePrinter$Row;", Cond.methodLink RX2 11 yX0_init, Cond.instanceMethod yX0_init]
def wsX3_init_r2 : List Cond := [Cond.code yX0_init cX0_init 2 none, Cond.methodLink RX0 1 objectInit, Cond.arrayClass .int, Cond.fieldLink RX0 7 "TapePrinter$Row" "values" "[I", Cond.methodLink RX2 23 yX0_add, Cond.instanceMethod yX0_add, Cond.selects RX0 yX0_add yX0_add, Cond.code yX0_add cX0_add 2 (some .boolean), Cond.fieldLink RX0 13 "TapePrinter$Row" "size" "I", Cond.methodLink RX3 18 yX1_init, Cond.instanceMethod yX1_init, Cond.code yX1_init cX1_init 2 none, Cond.methodLink RX1 3 objectInit, Cond.classLink RX1 9 RX0, Cond.fieldLink RX1 11 "TapePrinter$Sheet" "rows" "[LTapePrinter$Row;", Cond.fieldLink RX1 17 "TapePrinter$Sheet" "used" "I", Cond.methodLink RX1 21 yX0_init, Cond.methodLink RX3 25 yX0_init]
def wsX3_init : List Cond := .code yX3_init cX3_init 1 none :: ((wsX3_init_r1 ++ wsX3_init_r2) ++ wsX20 ++ wsX30 ++ wsX10 ++ wsX00)
def wsX3_isCharacter : List Cond := .code yX3_isCharacter cX3_isCharacter 1 (some .boolean) :: ([])
def wsX3_codeOf : List Cond := .code yX3_codeOf cX3_codeOf 1 (some .int) :: ([.fieldLink RX3 207 "TapePrinter" "CODES" "[I"])
def wsX3_code : List Cond := .code yX3_code cX3_code 2 (some .int) :: ([.classLink RX3 36 "java/lang/IndexOutOfBoundsException", .initialized "java/lang/IndexOutOfBoundsException", .methodLink RX3 32 yX3_isCharacter, .static yX3_isCharacter, .initialized RX3, .code yX3_isCharacter cX3_isCharacter 1 (some .boolean), .methodLink RX3 43 yX3_codeOf, .static yX3_codeOf, .code yX3_codeOf cX3_codeOf 1 (some .int), .fieldLink RX3 207 "TapePrinter" "CODES" "[I"] ++ (vx_atS RX3 40 "java/lang/IndexOutOfBoundsException" ["java/lang/RuntimeException", "java/lang/Exception"]).filter goodWord)
def wsX3_isCode : List Cond := .code yX3_isCode cX3_isCode 1 (some .boolean) :: ([])
def wsX3_characterInLetters : List Cond := .code yX3_characterInLetters cX3_characterInLetters 1 (some .int) :: ([.fieldLink RX3 214 "TapePrinter" "CHARACTERS" "[I"])
def wsX3_dependsOnShift : List Cond := .code yX3_dependsOnShift cX3_dependsOnShift 2 (some .boolean) :: ([.methodLink RX3 211 yX3_characterInLetters, .static yX3_characterInLetters, .initialized RX3, .code yX3_characterInLetters cX3_characterInLetters 1 (some .int), .fieldLink RX3 214 "TapePrinter" "CHARACTERS" "[I"])
def wsX3_characterOf : List Cond := .code yX3_characterOf cX3_characterOf 3 (some .int) :: ([.methodLink RX3 211 yX3_characterInLetters, .static yX3_characterInLetters, .initialized RX3, .code yX3_characterInLetters cX3_characterInLetters 1 (some .int), .fieldLink RX3 214 "TapePrinter" "CHARACTERS" "[I", .methodLink RX3 113 yX3_dependsOnShift, .static yX3_dependsOnShift, .code yX3_dependsOnShift cX3_dependsOnShift 2 (some .boolean)])
def wsX3_character : List Cond := .code yX3_character cX3_character 3 (some .int) :: ([.classLink RX3 36 "java/lang/IndexOutOfBoundsException", .initialized "java/lang/IndexOutOfBoundsException", .methodLink RX3 47 yX3_isCode, .static yX3_isCode, .initialized RX3, .code yX3_isCode cX3_isCode 1 (some .boolean), .methodLink RX3 52 yX3_characterOf, .static yX3_characterOf, .code yX3_characterOf cX3_characterOf 3 (some .int), .methodLink RX3 211 yX3_characterInLetters, .static yX3_characterInLetters, .code yX3_characterInLetters cX3_characterInLetters 1 (some .int), .fieldLink RX3 214 "TapePrinter" "CHARACTERS" "[I", .methodLink RX3 113 yX3_dependsOnShift, .static yX3_dependsOnShift, .code yX3_dependsOnShift cX3_dependsOnShift 2 (some .boolean)] ++ (vx_atS RX3 40 "java/lang/IndexOutOfBoundsException" ["java/lang/RuntimeException", "java/lang/Exception"]).filter goodWord)
def wsJ6_bitCount_0f7a4 : List Cond := .code yJ6_bitCount_0f7a4 cJ6_bitCount_0f7a4 1 (some .int) :: ([.constant RJ6 265 (1431655765), .constant RJ6 266 (858993459), .constant RJ6 267 (252645135)])
def wsX3_apart : List Cond := .code yX3_apart cX3_apart 3 (some .int) :: ([.classLink RX3 36 "java/lang/IndexOutOfBoundsException", .initialized "java/lang/IndexOutOfBoundsException", .methodLink RX3 32 yX3_isCharacter, .static yX3_isCharacter, .initialized RX3, .code yX3_isCharacter cX3_isCharacter 1 (some .boolean), .methodLink RX3 43 yX3_codeOf, .static yX3_codeOf, .code yX3_codeOf cX3_codeOf 1 (some .int), .fieldLink RX3 207 "TapePrinter" "CODES" "[I", .methodLink RX3 56 yJ6_bitCount_0f7a4, .static yJ6_bitCount_0f7a4, .initialized RJ6, .code yJ6_bitCount_0f7a4 cJ6_bitCount_0f7a4 1 (some .int), .constant RJ6 265 (1431655765), .constant RJ6 266 (858993459), .constant RJ6 267 (252645135)] ++ (vx_atS RX3 40 "java/lang/IndexOutOfBoundsException" ["java/lang/RuntimeException", "java/lang/Exception"]).filter goodWord)
def wsX3_doubts : List Cond := .code yX3_doubts cX3_doubts 5 (some .int) :: ([.classLink RX3 36 "java/lang/IndexOutOfBoundsException", .initialized "java/lang/IndexOutOfBoundsException", .fieldLink RX3 61 "TapePrinter" "figures" "Z", .methodLink RX3 47 yX3_isCode, .static yX3_isCode, .initialized RX3, .code yX3_isCode cX3_isCode 1 (some .boolean), .methodLink RX3 52 yX3_characterOf, .static yX3_characterOf, .code yX3_characterOf cX3_characterOf 3 (some .int), .methodLink RX3 211 yX3_characterInLetters, .static yX3_characterInLetters, .code yX3_characterInLetters cX3_characterInLetters 1 (some .int), .fieldLink RX3 214 "TapePrinter" "CHARACTERS" "[I", .methodLink RX3 113 yX3_dependsOnShift, .static yX3_dependsOnShift, .code yX3_dependsOnShift cX3_dependsOnShift 2 (some .boolean)] ++ wsX30 ++ (vx_atS RX3 40 "java/lang/IndexOutOfBoundsException" ["java/lang/RuntimeException", "java/lang/Exception"]).filter goodWord)
def wsX3_setLine_r1 : List Cond := [Cond.classLink RX3 36 "java/lang/IndexOutOfBoundsException", Cond.initialized "java/lang/IndexOutOfBoundsException", Cond.classLink RX3 67 "java/lang/IllegalArgumentException", Cond.initialized "java/lang/IllegalArgumentException", Cond.fieldLink RX3 10 "TapePrinter" "wire" "LTapePrinter$Wire;", Cond.methodLink RX3 47 yX3_isCode, Cond.static yX3_isCode, Cond.initialized RX3, Cond.code yX3_isCode cX3_isCode 1 (some .boolean), Cond.methodLink RX3 74 yX2_lateAt, Cond.instanceMethod yX2_lateAt, Cond.selects RX2 yX2_lateAt yX2_lateAt, Cond.initialized RX2, Cond.code yX2_lateAt cX2_lateAt 2 (some .int), Cond.fieldLink RX2 14 "TapePrinter$Wire" "late" "LTapePrinter$Row;", Cond.methodLink RX2 31 yX0_at, Cond.instanceMethod yX0_at, Cond.selects RX0 yX0_at yX0_at, Cond.initialized RX0, Cond.code yX0_at cX0_at 2 (some .int), Cond.fieldLink RX0 7 "TapePrinter$Row" "values" "[I", Cond.methodLink RX0 17 yX0_has, Cond.instanceMethod yX0_has, Cond.selects RX0 yX0_has yX0_has]
def wsX3_setLine_r2 : List Cond := [Cond.code yX0_has cX0_has 2 (some .boolean), Cond.fieldLink RX0 13 "TapePrinter$Row" "size" "I", Cond.methodLink RX3 77 yX2_change, Cond.instanceMethod yX2_change, Cond.selects RX2 yX2_change yX2_change, Cond.code yX2_change cX2_change 4 none, Cond.fieldLink RX2 20 "TapePrinter$Wire" "garbled" "LTapePrinter$Row;", Cond.methodLink RX2 35 yX0_change, Cond.instanceMethod yX0_change, Cond.selects RX0 yX0_change yX0_change, Cond.code yX0_change cX0_change 3 none]
def wsX3_setLine : List Cond := .code yX3_setLine cX3_setLine 5 (some .int) :: ((wsX3_setLine_r1 ++ wsX3_setLine_r2) ++ wsX30 ++ wsX20 ++ wsX00 ++ (vx_atS RX3 40 "java/lang/IndexOutOfBoundsException" ["java/lang/RuntimeException", "java/lang/Exception"]).filter goodWord ++ (vx_atS RX3 71 "java/lang/IllegalArgumentException" ["java/lang/RuntimeException", "java/lang/Exception"]).filter goodWord)
def wsX3_setPlay : List Cond := .code yX3_setPlay cX3_setPlay 3 (some .int) :: ([.classLink RX3 67 "java/lang/IllegalArgumentException", .initialized "java/lang/IllegalArgumentException", .fieldLink RX3 10 "TapePrinter" "wire" "LTapePrinter$Wire;", .methodLink RX3 83 yX2_play, .instanceMethod yX2_play, .selects RX2 yX2_play yX2_play, .initialized RX2, .code yX2_play cX2_play 1 (some .int), .fieldLink RX2 27 "TapePrinter$Wire" "play" "I", .methodLink RX3 87 yX2_changePlay, .instanceMethod yX2_changePlay, .selects RX2 yX2_changePlay yX2_changePlay, .code yX2_changePlay cX2_changePlay 2 none] ++ wsX30 ++ wsX20 ++ (vx_atS RX3 71 "java/lang/IllegalArgumentException" ["java/lang/RuntimeException", "java/lang/Exception"]).filter goodWord)
def wsX3_setUnshift : List Cond := .code yX3_setUnshift cX3_setUnshift 3 (some .boolean) :: ([.fieldLink RX3 90 "TapePrinter" "unshifts" "Z"] ++ wsX30)
def wsX3_shiftsToLetters : List Cond := .code yX3_shiftsToLetters cX3_shiftsToLetters 2 (some .boolean) :: ([.fieldLink RX3 90 "TapePrinter" "unshifts" "Z"] ++ wsX30)
def wsX3_figuresBehind : List Cond := .code yX3_figuresBehind cX3_figuresBehind 3 (some .boolean) :: ([.methodLink RX3 217 yX3_shiftsToLetters, .instanceMethod yX3_shiftsToLetters, .selects RX3 yX3_shiftsToLetters yX3_shiftsToLetters, .initialized RX3, .code yX3_shiftsToLetters cX3_shiftsToLetters 2 (some .boolean), .fieldLink RX3 90 "TapePrinter" "unshifts" "Z"] ++ wsX30)
def wsX3_obey_r1 : List Cond := [Cond.fieldLink RX3 61 "TapePrinter" "figures" "Z", Cond.fieldLink RX3 19 "TapePrinter" "sheet" "LTapePrinter$Sheet;", Cond.fieldLink RX3 201 "TapePrinter" "lost" "I", Cond.fieldLink RX3 204 "TapePrinter" "bells" "I", Cond.methodLink RX3 52 yX3_characterOf, Cond.static yX3_characterOf, Cond.initialized RX3, Cond.code yX3_characterOf cX3_characterOf 3 (some .int), Cond.methodLink RX3 211 yX3_characterInLetters, Cond.static yX3_characterInLetters, Cond.code yX3_characterInLetters cX3_characterInLetters 1 (some .int), Cond.fieldLink RX3 214 "TapePrinter" "CHARACTERS" "[I", Cond.methodLink RX3 113 yX3_dependsOnShift, Cond.static yX3_dependsOnShift, Cond.code yX3_dependsOnShift cX3_dependsOnShift 2 (some .boolean), Cond.methodLink RX3 223 yX1_beginLine, Cond.instanceMethod yX1_beginLine, Cond.selects RX1 yX1_beginLine yX1_beginLine, Cond.initialized RX1, Cond.code yX1_beginLine cX1_beginLine 2 none, Cond.fieldLink RX1 17 "TapePrinter$Sheet" "used" "I", Cond.fieldLink RX1 24 "TapePrinter$Sheet" "first" "I", Cond.methodLink RX1 27 yX1_row, Cond.instanceMethod yX1_row]
def wsX3_obey_r2 : List Cond := [Cond.selects RX1 yX1_row yX1_row, Cond.code yX1_row cX1_row 3 (some (.object "TapePrinter$Row")), Cond.fieldLink RX1 11 "TapePrinter$Sheet" "rows" "[LTapePrinter$Row;", Cond.methodLink RX1 35 yX0_clear, Cond.instanceMethod yX0_clear, Cond.selects RX0 yX0_clear yX0_clear, Cond.initialized RX0, Cond.code yX0_clear cX0_clear 1 none, Cond.fieldLink RX0 13 "TapePrinter$Row" "size" "I", Cond.methodLink RX3 226 yX1_add, Cond.instanceMethod yX1_add, Cond.selects RX1 yX1_add yX1_add, Cond.code yX1_add cX1_add 3 (some .boolean), Cond.methodLink RX1 31 yX0_add, Cond.instanceMethod yX0_add, Cond.selects RX0 yX0_add yX0_add, Cond.code yX0_add cX0_add 2 (some .boolean), Cond.fieldLink RX0 7 "TapePrinter$Row" "values" "[I", Cond.methodLink RX3 164 yX3_figuresBehind, Cond.instanceMethod yX3_figuresBehind, Cond.selects RX3 yX3_figuresBehind yX3_figuresBehind, Cond.code yX3_figuresBehind cX3_figuresBehind 3 (some .boolean), Cond.methodLink RX3 217 yX3_shiftsToLetters, Cond.instanceMethod yX3_shiftsToLetters]
def wsX3_obey_r3 : List Cond := [Cond.selects RX3 yX3_shiftsToLetters yX3_shiftsToLetters, Cond.code yX3_shiftsToLetters cX3_shiftsToLetters 2 (some .boolean), Cond.fieldLink RX3 90 "TapePrinter" "unshifts" "Z"]
def wsX3_obey : List Cond := .code yX3_obey cX3_obey 3 none :: ((wsX3_obey_r1 ++ (wsX3_obey_r2 ++ wsX3_obey_r3)) ++ wsX30 ++ wsX10 ++ wsX00)
def wsX3_takeIn_r1 : List Cond := [Cond.fieldLink RX3 10 "TapePrinter" "wire" "LTapePrinter$Wire;", Cond.fieldLink RX3 158 "TapePrinter" "came" "I", Cond.fieldLink RX3 198 "TapePrinter" "misread" "I", Cond.methodLink RX3 161 yX2_readAs, Cond.instanceMethod yX2_readAs, Cond.selects RX2 yX2_readAs yX2_readAs, Cond.initialized RX2, Cond.code yX2_readAs cX2_readAs 6 (some .int), Cond.fieldLink RX2 20 "TapePrinter$Wire" "garbled" "LTapePrinter$Row;", Cond.fieldLink RX2 14 "TapePrinter$Wire" "late" "LTapePrinter$Row;", Cond.fieldLink RX2 27 "TapePrinter$Wire" "play" "I", Cond.methodLink RX2 31 yX0_at, Cond.instanceMethod yX0_at, Cond.selects RX0 yX0_at yX0_at, Cond.initialized RX0, Cond.code yX0_at cX0_at 2 (some .int), Cond.fieldLink RX0 7 "TapePrinter$Row" "values" "[I", Cond.methodLink RX0 17 yX0_has, Cond.instanceMethod yX0_has, Cond.selects RX0 yX0_has yX0_has, Cond.code yX0_has cX0_has 2 (some .boolean), Cond.fieldLink RX0 13 "TapePrinter$Row" "size" "I", Cond.methodLink RX3 220 yX3_obey, Cond.instanceMethod yX3_obey]
def wsX3_takeIn_r2 : List Cond := [Cond.selects RX3 yX3_obey yX3_obey, Cond.initialized RX3, Cond.code yX3_obey cX3_obey 3 none, Cond.fieldLink RX3 61 "TapePrinter" "figures" "Z", Cond.fieldLink RX3 19 "TapePrinter" "sheet" "LTapePrinter$Sheet;", Cond.fieldLink RX3 201 "TapePrinter" "lost" "I", Cond.fieldLink RX3 204 "TapePrinter" "bells" "I", Cond.methodLink RX3 52 yX3_characterOf, Cond.static yX3_characterOf, Cond.code yX3_characterOf cX3_characterOf 3 (some .int), Cond.methodLink RX3 211 yX3_characterInLetters, Cond.static yX3_characterInLetters, Cond.code yX3_characterInLetters cX3_characterInLetters 1 (some .int), Cond.fieldLink RX3 214 "TapePrinter" "CHARACTERS" "[I", Cond.methodLink RX3 113 yX3_dependsOnShift, Cond.static yX3_dependsOnShift, Cond.code yX3_dependsOnShift cX3_dependsOnShift 2 (some .boolean), Cond.methodLink RX3 223 yX1_beginLine, Cond.instanceMethod yX1_beginLine, Cond.selects RX1 yX1_beginLine yX1_beginLine, Cond.initialized RX1, Cond.code yX1_beginLine cX1_beginLine 2 none, Cond.fieldLink RX1 17 "TapePrinter$Sheet" "used" "I", Cond.fieldLink RX1 24 "TapePrinter$Sheet" "first" "I"]
def wsX3_takeIn_r3 : List Cond := [Cond.methodLink RX1 27 yX1_row, Cond.instanceMethod yX1_row, Cond.selects RX1 yX1_row yX1_row, Cond.code yX1_row cX1_row 3 (some (.object "TapePrinter$Row")), Cond.fieldLink RX1 11 "TapePrinter$Sheet" "rows" "[LTapePrinter$Row;", Cond.methodLink RX1 35 yX0_clear, Cond.instanceMethod yX0_clear, Cond.selects RX0 yX0_clear yX0_clear, Cond.code yX0_clear cX0_clear 1 none, Cond.methodLink RX3 226 yX1_add, Cond.instanceMethod yX1_add, Cond.selects RX1 yX1_add yX1_add, Cond.code yX1_add cX1_add 3 (some .boolean), Cond.methodLink RX1 31 yX0_add, Cond.instanceMethod yX0_add, Cond.selects RX0 yX0_add yX0_add, Cond.code yX0_add cX0_add 2 (some .boolean), Cond.methodLink RX3 164 yX3_figuresBehind, Cond.instanceMethod yX3_figuresBehind, Cond.selects RX3 yX3_figuresBehind yX3_figuresBehind, Cond.code yX3_figuresBehind cX3_figuresBehind 3 (some .boolean), Cond.methodLink RX3 217 yX3_shiftsToLetters, Cond.instanceMethod yX3_shiftsToLetters, Cond.selects RX3 yX3_shiftsToLetters yX3_shiftsToLetters]
def wsX3_takeIn_r4 : List Cond := [Cond.code yX3_shiftsToLetters cX3_shiftsToLetters 2 (some .boolean), Cond.fieldLink RX3 90 "TapePrinter" "unshifts" "Z"]
def wsX3_takeIn : List Cond := .code yX3_takeIn cX3_takeIn 3 (some .int) :: ((wsX3_takeIn_r1 ++ (wsX3_takeIn_r2 ++ (wsX3_takeIn_r3 ++ wsX3_takeIn_r4))) ++ wsX30 ++ wsX20 ++ wsX00 ++ wsX10)
def wsX3_receive_r1 : List Cond := [Cond.classLink RX3 36 "java/lang/IndexOutOfBoundsException", Cond.initialized "java/lang/IndexOutOfBoundsException", Cond.methodLink RX3 47 yX3_isCode, Cond.static yX3_isCode, Cond.initialized RX3, Cond.code yX3_isCode cX3_isCode 1 (some .boolean), Cond.methodLink RX3 93 yX3_takeIn, Cond.instanceMethod yX3_takeIn, Cond.selects RX3 yX3_takeIn yX3_takeIn, Cond.code yX3_takeIn cX3_takeIn 3 (some .int), Cond.fieldLink RX3 10 "TapePrinter" "wire" "LTapePrinter$Wire;", Cond.fieldLink RX3 158 "TapePrinter" "came" "I", Cond.fieldLink RX3 198 "TapePrinter" "misread" "I", Cond.methodLink RX3 161 yX2_readAs, Cond.instanceMethod yX2_readAs, Cond.selects RX2 yX2_readAs yX2_readAs, Cond.initialized RX2, Cond.code yX2_readAs cX2_readAs 6 (some .int), Cond.fieldLink RX2 20 "TapePrinter$Wire" "garbled" "LTapePrinter$Row;", Cond.fieldLink RX2 14 "TapePrinter$Wire" "late" "LTapePrinter$Row;", Cond.fieldLink RX2 27 "TapePrinter$Wire" "play" "I", Cond.methodLink RX2 31 yX0_at, Cond.instanceMethod yX0_at, Cond.selects RX0 yX0_at yX0_at]
def wsX3_receive_r2 : List Cond := [Cond.initialized RX0, Cond.code yX0_at cX0_at 2 (some .int), Cond.fieldLink RX0 7 "TapePrinter$Row" "values" "[I", Cond.methodLink RX0 17 yX0_has, Cond.instanceMethod yX0_has, Cond.selects RX0 yX0_has yX0_has, Cond.code yX0_has cX0_has 2 (some .boolean), Cond.fieldLink RX0 13 "TapePrinter$Row" "size" "I", Cond.methodLink RX3 220 yX3_obey, Cond.instanceMethod yX3_obey, Cond.selects RX3 yX3_obey yX3_obey, Cond.code yX3_obey cX3_obey 3 none, Cond.fieldLink RX3 61 "TapePrinter" "figures" "Z", Cond.fieldLink RX3 19 "TapePrinter" "sheet" "LTapePrinter$Sheet;", Cond.fieldLink RX3 201 "TapePrinter" "lost" "I", Cond.fieldLink RX3 204 "TapePrinter" "bells" "I", Cond.methodLink RX3 52 yX3_characterOf, Cond.static yX3_characterOf, Cond.code yX3_characterOf cX3_characterOf 3 (some .int), Cond.methodLink RX3 211 yX3_characterInLetters, Cond.static yX3_characterInLetters, Cond.code yX3_characterInLetters cX3_characterInLetters 1 (some .int), Cond.fieldLink RX3 214 "TapePrinter" "CHARACTERS" "[I", Cond.methodLink RX3 113 yX3_dependsOnShift]
def wsX3_receive_r3 : List Cond := [Cond.static yX3_dependsOnShift, Cond.code yX3_dependsOnShift cX3_dependsOnShift 2 (some .boolean), Cond.methodLink RX3 223 yX1_beginLine, Cond.instanceMethod yX1_beginLine, Cond.selects RX1 yX1_beginLine yX1_beginLine, Cond.initialized RX1, Cond.code yX1_beginLine cX1_beginLine 2 none, Cond.fieldLink RX1 17 "TapePrinter$Sheet" "used" "I", Cond.fieldLink RX1 24 "TapePrinter$Sheet" "first" "I", Cond.methodLink RX1 27 yX1_row, Cond.instanceMethod yX1_row, Cond.selects RX1 yX1_row yX1_row, Cond.code yX1_row cX1_row 3 (some (.object "TapePrinter$Row")), Cond.fieldLink RX1 11 "TapePrinter$Sheet" "rows" "[LTapePrinter$Row;", Cond.methodLink RX1 35 yX0_clear, Cond.instanceMethod yX0_clear, Cond.selects RX0 yX0_clear yX0_clear, Cond.code yX0_clear cX0_clear 1 none, Cond.methodLink RX3 226 yX1_add, Cond.instanceMethod yX1_add, Cond.selects RX1 yX1_add yX1_add, Cond.code yX1_add cX1_add 3 (some .boolean), Cond.methodLink RX1 31 yX0_add, Cond.instanceMethod yX0_add]
def wsX3_receive_r4 : List Cond := [Cond.selects RX0 yX0_add yX0_add, Cond.code yX0_add cX0_add 2 (some .boolean), Cond.methodLink RX3 164 yX3_figuresBehind, Cond.instanceMethod yX3_figuresBehind, Cond.selects RX3 yX3_figuresBehind yX3_figuresBehind, Cond.code yX3_figuresBehind cX3_figuresBehind 3 (some .boolean), Cond.methodLink RX3 217 yX3_shiftsToLetters, Cond.instanceMethod yX3_shiftsToLetters, Cond.selects RX3 yX3_shiftsToLetters yX3_shiftsToLetters, Cond.code yX3_shiftsToLetters cX3_shiftsToLetters 2 (some .boolean), Cond.fieldLink RX3 90 "TapePrinter" "unshifts" "Z"]
def wsX3_receive : List Cond := .code yX3_receive cX3_receive 2 (some .int) :: ((wsX3_receive_r1 ++ (wsX3_receive_r2 ++ (wsX3_receive_r3 ++ wsX3_receive_r4))) ++ wsX30 ++ wsX20 ++ wsX00 ++ wsX10 ++ (vx_atS RX3 40 "java/lang/IndexOutOfBoundsException" ["java/lang/RuntimeException", "java/lang/Exception"]).filter goodWord)
def wsX3_punch : List Cond := .code yX3_punch cX3_punch 2 (some .int) :: ([.classLink RX3 36 "java/lang/IndexOutOfBoundsException", .initialized "java/lang/IndexOutOfBoundsException", .classLink RX3 99 "java/lang/IllegalStateException", .initialized "java/lang/IllegalStateException", .fieldLink RX3 28 "TapePrinter" "strip" "LTapePrinter$Row;", .methodLink RX3 47 yX3_isCode, .static yX3_isCode, .initialized RX3, .code yX3_isCode cX3_isCode 1 (some .boolean), .methodLink RX3 96 yX0_room, .instanceMethod yX0_room, .selects RX0 yX0_room yX0_room, .initialized RX0, .code yX0_room cX0_room 1 (some .int), .fieldLink RX0 7 "TapePrinter$Row" "values" "[I", .fieldLink RX0 13 "TapePrinter$Row" "size" "I", .methodLink RX3 104 yX0_add, .instanceMethod yX0_add, .selects RX0 yX0_add yX0_add, .code yX0_add cX0_add 2 (some .boolean), .methodLink RX3 107 yX0_size, .instanceMethod yX0_size, .selects RX0 yX0_size yX0_size, .code yX0_size cX0_size 1 (some .int)] ++ wsX30 ++ wsX00 ++ (vx_atS RX3 40 "java/lang/IndexOutOfBoundsException" ["java/lang/RuntimeException", "java/lang/Exception"]).filter goodWord ++ (vx_atS RX3 103 "java/lang/IllegalStateException" ["java/lang/RuntimeException", "java/lang/Exception"]).filter goodWord)
def wsX3_isFigure : List Cond := .code yX3_isFigure cX3_isFigure 1 (some .boolean) :: ([])
def wsX3_figuresAhead_r1 : List Cond := [Cond.fieldLink RX3 28 "TapePrinter" "strip" "LTapePrinter$Row;", Cond.methodLink RX3 107 yX0_size, Cond.instanceMethod yX0_size, Cond.selects RX0 yX0_size yX0_size, Cond.initialized RX0, Cond.code yX0_size cX0_size 1 (some .int), Cond.fieldLink RX0 13 "TapePrinter$Row" "size" "I", Cond.methodLink RX3 127 yX0_at, Cond.instanceMethod yX0_at, Cond.selects RX0 yX0_at yX0_at, Cond.code yX0_at cX0_at 2 (some .int), Cond.fieldLink RX0 7 "TapePrinter$Row" "values" "[I", Cond.methodLink RX0 17 yX0_has, Cond.instanceMethod yX0_has, Cond.selects RX0 yX0_has yX0_has, Cond.code yX0_has cX0_has 2 (some .boolean), Cond.methodLink RX3 164 yX3_figuresBehind, Cond.instanceMethod yX3_figuresBehind, Cond.selects RX3 yX3_figuresBehind yX3_figuresBehind, Cond.initialized RX3, Cond.code yX3_figuresBehind cX3_figuresBehind 3 (some .boolean), Cond.methodLink RX3 217 yX3_shiftsToLetters, Cond.instanceMethod yX3_shiftsToLetters, Cond.selects RX3 yX3_shiftsToLetters yX3_shiftsToLetters]
def wsX3_figuresAhead_r2 : List Cond := [Cond.code yX3_shiftsToLetters cX3_shiftsToLetters 2 (some .boolean), Cond.fieldLink RX3 90 "TapePrinter" "unshifts" "Z"]
def wsX3_figuresAhead : List Cond := .code yX3_figuresAhead cX3_figuresAhead 4 (some .boolean) :: ((wsX3_figuresAhead_r1 ++ wsX3_figuresAhead_r2) ++ wsX30 ++ wsX00)
def wsX3_figuresAtEnd_r1 : List Cond := [Cond.fieldLink RX3 28 "TapePrinter" "strip" "LTapePrinter$Row;", Cond.methodLink RX3 107 yX0_size, Cond.instanceMethod yX0_size, Cond.selects RX0 yX0_size yX0_size, Cond.initialized RX0, Cond.code yX0_size cX0_size 1 (some .int), Cond.fieldLink RX0 13 "TapePrinter$Row" "size" "I", Cond.methodLink RX3 174 yX3_figuresAhead, Cond.instanceMethod yX3_figuresAhead, Cond.selects RX3 yX3_figuresAhead yX3_figuresAhead, Cond.initialized RX3, Cond.code yX3_figuresAhead cX3_figuresAhead 4 (some .boolean), Cond.methodLink RX3 127 yX0_at, Cond.instanceMethod yX0_at, Cond.selects RX0 yX0_at yX0_at, Cond.code yX0_at cX0_at 2 (some .int), Cond.fieldLink RX0 7 "TapePrinter$Row" "values" "[I", Cond.methodLink RX0 17 yX0_has, Cond.instanceMethod yX0_has, Cond.selects RX0 yX0_has yX0_has, Cond.code yX0_has cX0_has 2 (some .boolean), Cond.methodLink RX3 164 yX3_figuresBehind, Cond.instanceMethod yX3_figuresBehind, Cond.selects RX3 yX3_figuresBehind yX3_figuresBehind]
def wsX3_figuresAtEnd_r2 : List Cond := [Cond.code yX3_figuresBehind cX3_figuresBehind 3 (some .boolean), Cond.methodLink RX3 217 yX3_shiftsToLetters, Cond.instanceMethod yX3_shiftsToLetters, Cond.selects RX3 yX3_shiftsToLetters yX3_shiftsToLetters, Cond.code yX3_shiftsToLetters cX3_shiftsToLetters 2 (some .boolean), Cond.fieldLink RX3 90 "TapePrinter" "unshifts" "Z"]
def wsX3_figuresAtEnd : List Cond := .code yX3_figuresAtEnd cX3_figuresAtEnd 1 (some .boolean) :: ((wsX3_figuresAtEnd_r1 ++ wsX3_figuresAtEnd_r2) ++ wsX30 ++ wsX00)
def wsX3_type_r1 : List Cond := [Cond.classLink RX3 36 "java/lang/IndexOutOfBoundsException", Cond.initialized "java/lang/IndexOutOfBoundsException", Cond.classLink RX3 99 "java/lang/IllegalStateException", Cond.initialized "java/lang/IllegalStateException", Cond.fieldLink RX3 28 "TapePrinter" "strip" "LTapePrinter$Row;", Cond.methodLink RX3 32 yX3_isCharacter, Cond.static yX3_isCharacter, Cond.initialized RX3, Cond.code yX3_isCharacter cX3_isCharacter 1 (some .boolean), Cond.methodLink RX3 110 yX3_isFigure, Cond.static yX3_isFigure, Cond.code yX3_isFigure cX3_isFigure 1 (some .boolean), Cond.methodLink RX3 43 yX3_codeOf, Cond.static yX3_codeOf, Cond.code yX3_codeOf cX3_codeOf 1 (some .int), Cond.fieldLink RX3 207 "TapePrinter" "CODES" "[I", Cond.methodLink RX3 113 yX3_dependsOnShift, Cond.static yX3_dependsOnShift, Cond.code yX3_dependsOnShift cX3_dependsOnShift 2 (some .boolean), Cond.methodLink RX3 211 yX3_characterInLetters, Cond.static yX3_characterInLetters, Cond.code yX3_characterInLetters cX3_characterInLetters 1 (some .int), Cond.fieldLink RX3 214 "TapePrinter" "CHARACTERS" "[I", Cond.methodLink RX3 116 yX3_figuresAtEnd]
def wsX3_type_r2 : List Cond := [Cond.instanceMethod yX3_figuresAtEnd, Cond.selects RX3 yX3_figuresAtEnd yX3_figuresAtEnd, Cond.code yX3_figuresAtEnd cX3_figuresAtEnd 1 (some .boolean), Cond.methodLink RX3 107 yX0_size, Cond.instanceMethod yX0_size, Cond.selects RX0 yX0_size yX0_size, Cond.initialized RX0, Cond.code yX0_size cX0_size 1 (some .int), Cond.fieldLink RX0 13 "TapePrinter$Row" "size" "I", Cond.methodLink RX3 174 yX3_figuresAhead, Cond.instanceMethod yX3_figuresAhead, Cond.selects RX3 yX3_figuresAhead yX3_figuresAhead, Cond.code yX3_figuresAhead cX3_figuresAhead 4 (some .boolean), Cond.methodLink RX3 127 yX0_at, Cond.instanceMethod yX0_at, Cond.selects RX0 yX0_at yX0_at, Cond.code yX0_at cX0_at 2 (some .int), Cond.fieldLink RX0 7 "TapePrinter$Row" "values" "[I", Cond.methodLink RX0 17 yX0_has, Cond.instanceMethod yX0_has, Cond.selects RX0 yX0_has yX0_has, Cond.code yX0_has cX0_has 2 (some .boolean), Cond.methodLink RX3 164 yX3_figuresBehind, Cond.instanceMethod yX3_figuresBehind]
def wsX3_type_r3 : List Cond := [Cond.selects RX3 yX3_figuresBehind yX3_figuresBehind, Cond.code yX3_figuresBehind cX3_figuresBehind 3 (some .boolean), Cond.methodLink RX3 217 yX3_shiftsToLetters, Cond.instanceMethod yX3_shiftsToLetters, Cond.selects RX3 yX3_shiftsToLetters yX3_shiftsToLetters, Cond.code yX3_shiftsToLetters cX3_shiftsToLetters 2 (some .boolean), Cond.fieldLink RX3 90 "TapePrinter" "unshifts" "Z", Cond.methodLink RX3 96 yX0_room, Cond.instanceMethod yX0_room, Cond.selects RX0 yX0_room yX0_room, Cond.code yX0_room cX0_room 1 (some .int), Cond.methodLink RX3 104 yX0_add, Cond.instanceMethod yX0_add, Cond.selects RX0 yX0_add yX0_add, Cond.code yX0_add cX0_add 2 (some .boolean)]
def wsX3_type : List Cond := .code yX3_type cX3_type 5 (some .int) :: ((wsX3_type_r1 ++ (wsX3_type_r2 ++ wsX3_type_r3)) ++ wsX30 ++ wsX00 ++ (vx_atS RX3 40 "java/lang/IndexOutOfBoundsException" ["java/lang/RuntimeException", "java/lang/Exception"]).filter goodWord ++ (vx_atS RX3 103 "java/lang/IllegalStateException" ["java/lang/RuntimeException", "java/lang/Exception"]).filter goodWord)
def wsX3_rub : List Cond := .code yX3_rub cX3_rub 3 (some .int) :: ([.classLink RX3 36 "java/lang/IndexOutOfBoundsException", .initialized "java/lang/IndexOutOfBoundsException", .fieldLink RX3 28 "TapePrinter" "strip" "LTapePrinter$Row;", .methodLink RX3 122 yX0_has, .instanceMethod yX0_has, .selects RX0 yX0_has yX0_has, .initialized RX0, .code yX0_has cX0_has 2 (some .boolean), .fieldLink RX0 13 "TapePrinter$Row" "size" "I", .fieldLink RX0 7 "TapePrinter$Row" "values" "[I", .methodLink RX3 127 yX0_at, .instanceMethod yX0_at, .selects RX0 yX0_at yX0_at, .code yX0_at cX0_at 2 (some .int), .methodLink RX0 17 yX0_has, .methodLink RX3 130 yX0_change, .instanceMethod yX0_change, .selects RX0 yX0_change yX0_change, .code yX0_change cX0_change 3 none] ++ wsX30 ++ wsX00 ++ (vx_atS RX3 40 "java/lang/IndexOutOfBoundsException" ["java/lang/RuntimeException", "java/lang/Exception"]).filter goodWord)
def wsX3_run_r1 : List Cond := [Cond.classLink RX3 67 "java/lang/IllegalArgumentException", Cond.initialized "java/lang/IllegalArgumentException", Cond.fieldLink RX3 28 "TapePrinter" "strip" "LTapePrinter$Row;", Cond.fieldLink RX3 135 "TapePrinter" "reader" "I", Cond.methodLink RX3 139 Lib.Math.min.name, Cond.static Lib.Math.min.name, Cond.initialized "java/lang/Math", Cond.code Lib.Math.min.name Lib.Math.min.code 2 (some .int), Cond.methodLink RX3 107 yX0_size, Cond.instanceMethod yX0_size, Cond.selects RX0 yX0_size yX0_size, Cond.initialized RX0, Cond.code yX0_size cX0_size 1 (some .int), Cond.fieldLink RX0 13 "TapePrinter$Row" "size" "I", Cond.methodLink RX3 127 yX0_at, Cond.instanceMethod yX0_at, Cond.selects RX0 yX0_at yX0_at, Cond.code yX0_at cX0_at 2 (some .int), Cond.fieldLink RX0 7 "TapePrinter$Row" "values" "[I", Cond.methodLink RX0 17 yX0_has, Cond.instanceMethod yX0_has, Cond.selects RX0 yX0_has yX0_has, Cond.code yX0_has cX0_has 2 (some .boolean), Cond.methodLink RX3 93 yX3_takeIn]
def wsX3_run_r2 : List Cond := [Cond.instanceMethod yX3_takeIn, Cond.selects RX3 yX3_takeIn yX3_takeIn, Cond.initialized RX3, Cond.code yX3_takeIn cX3_takeIn 3 (some .int), Cond.fieldLink RX3 10 "TapePrinter" "wire" "LTapePrinter$Wire;", Cond.fieldLink RX3 158 "TapePrinter" "came" "I", Cond.fieldLink RX3 198 "TapePrinter" "misread" "I", Cond.methodLink RX3 161 yX2_readAs, Cond.instanceMethod yX2_readAs, Cond.selects RX2 yX2_readAs yX2_readAs, Cond.initialized RX2, Cond.code yX2_readAs cX2_readAs 6 (some .int), Cond.fieldLink RX2 20 "TapePrinter$Wire" "garbled" "LTapePrinter$Row;", Cond.fieldLink RX2 14 "TapePrinter$Wire" "late" "LTapePrinter$Row;", Cond.fieldLink RX2 27 "TapePrinter$Wire" "play" "I", Cond.methodLink RX2 31 yX0_at, Cond.methodLink RX3 220 yX3_obey, Cond.instanceMethod yX3_obey, Cond.selects RX3 yX3_obey yX3_obey, Cond.code yX3_obey cX3_obey 3 none, Cond.fieldLink RX3 61 "TapePrinter" "figures" "Z", Cond.fieldLink RX3 19 "TapePrinter" "sheet" "LTapePrinter$Sheet;", Cond.fieldLink RX3 201 "TapePrinter" "lost" "I", Cond.fieldLink RX3 204 "TapePrinter" "bells" "I"]
def wsX3_run_r3 : List Cond := [Cond.methodLink RX3 52 yX3_characterOf, Cond.static yX3_characterOf, Cond.code yX3_characterOf cX3_characterOf 3 (some .int), Cond.methodLink RX3 211 yX3_characterInLetters, Cond.static yX3_characterInLetters, Cond.code yX3_characterInLetters cX3_characterInLetters 1 (some .int), Cond.fieldLink RX3 214 "TapePrinter" "CHARACTERS" "[I", Cond.methodLink RX3 113 yX3_dependsOnShift, Cond.static yX3_dependsOnShift, Cond.code yX3_dependsOnShift cX3_dependsOnShift 2 (some .boolean), Cond.methodLink RX3 223 yX1_beginLine, Cond.instanceMethod yX1_beginLine, Cond.selects RX1 yX1_beginLine yX1_beginLine, Cond.initialized RX1, Cond.code yX1_beginLine cX1_beginLine 2 none, Cond.fieldLink RX1 17 "TapePrinter$Sheet" "used" "I", Cond.fieldLink RX1 24 "TapePrinter$Sheet" "first" "I", Cond.methodLink RX1 27 yX1_row, Cond.instanceMethod yX1_row, Cond.selects RX1 yX1_row yX1_row, Cond.code yX1_row cX1_row 3 (some (.object "TapePrinter$Row")), Cond.fieldLink RX1 11 "TapePrinter$Sheet" "rows" "[LTapePrinter$Row;", Cond.methodLink RX1 35 yX0_clear, Cond.instanceMethod yX0_clear]
def wsX3_run_r4 : List Cond := [Cond.selects RX0 yX0_clear yX0_clear, Cond.code yX0_clear cX0_clear 1 none, Cond.methodLink RX3 226 yX1_add, Cond.instanceMethod yX1_add, Cond.selects RX1 yX1_add yX1_add, Cond.code yX1_add cX1_add 3 (some .boolean), Cond.methodLink RX1 31 yX0_add, Cond.instanceMethod yX0_add, Cond.selects RX0 yX0_add yX0_add, Cond.code yX0_add cX0_add 2 (some .boolean), Cond.methodLink RX3 164 yX3_figuresBehind, Cond.instanceMethod yX3_figuresBehind, Cond.selects RX3 yX3_figuresBehind yX3_figuresBehind, Cond.code yX3_figuresBehind cX3_figuresBehind 3 (some .boolean), Cond.methodLink RX3 217 yX3_shiftsToLetters, Cond.instanceMethod yX3_shiftsToLetters, Cond.selects RX3 yX3_shiftsToLetters yX3_shiftsToLetters, Cond.code yX3_shiftsToLetters cX3_shiftsToLetters 2 (some .boolean), Cond.fieldLink RX3 90 "TapePrinter" "unshifts" "Z"]
def wsX3_run : List Cond := .code yX3_run cX3_run 4 (some .int) :: ((wsX3_run_r1 ++ (wsX3_run_r2 ++ (wsX3_run_r3 ++ wsX3_run_r4))) ++ wsX30 ++ wsX00 ++ wsX20 ++ wsX10 ++ (vx_atS RX3 71 "java/lang/IllegalArgumentException" ["java/lang/RuntimeException", "java/lang/Exception"]).filter goodWord)
def wsX3_wind : List Cond := .code yX3_wind cX3_wind 3 (some .int) :: ([.classLink RX3 36 "java/lang/IndexOutOfBoundsException", .initialized "java/lang/IndexOutOfBoundsException", .fieldLink RX3 28 "TapePrinter" "strip" "LTapePrinter$Row;", .fieldLink RX3 135 "TapePrinter" "reader" "I", .methodLink RX3 107 yX0_size, .instanceMethod yX0_size, .selects RX0 yX0_size yX0_size, .initialized RX0, .code yX0_size cX0_size 1 (some .int), .fieldLink RX0 13 "TapePrinter$Row" "size" "I"] ++ wsX30 ++ wsX00 ++ (vx_atS RX3 40 "java/lang/IndexOutOfBoundsException" ["java/lang/RuntimeException", "java/lang/Exception"]).filter goodWord)
def wsX3_tape : List Cond := .code yX3_tape cX3_tape 2 (some .int) :: ([.classLink RX3 36 "java/lang/IndexOutOfBoundsException", .initialized "java/lang/IndexOutOfBoundsException", .fieldLink RX3 28 "TapePrinter" "strip" "LTapePrinter$Row;", .methodLink RX3 122 yX0_has, .instanceMethod yX0_has, .selects RX0 yX0_has yX0_has, .initialized RX0, .code yX0_has cX0_has 2 (some .boolean), .fieldLink RX0 13 "TapePrinter$Row" "size" "I", .fieldLink RX0 7 "TapePrinter$Row" "values" "[I", .methodLink RX3 127 yX0_at, .instanceMethod yX0_at, .selects RX0 yX0_at yX0_at, .code yX0_at cX0_at 2 (some .int), .methodLink RX0 17 yX0_has] ++ wsX30 ++ wsX00 ++ (vx_atS RX3 40 "java/lang/IndexOutOfBoundsException" ["java/lang/RuntimeException", "java/lang/Exception"]).filter goodWord)
def wsX3_page : List Cond := .code yX3_page cX3_page 4 (some .int) :: ([.classLink RX3 36 "java/lang/IndexOutOfBoundsException", .initialized "java/lang/IndexOutOfBoundsException", .fieldLink RX3 19 "TapePrinter" "sheet" "LTapePrinter$Sheet;", .methodLink RX3 145 yX1_row, .instanceMethod yX1_row, .selects RX1 yX1_row yX1_row, .initialized RX1, .code yX1_row cX1_row 3 (some (.object "TapePrinter$Row")), .fieldLink RX1 17 "TapePrinter$Sheet" "used" "I", .fieldLink RX1 24 "TapePrinter$Sheet" "first" "I", .fieldLink RX1 11 "TapePrinter$Sheet" "rows" "[LTapePrinter$Row;", .methodLink RX3 122 yX0_has, .instanceMethod yX0_has, .selects RX0 yX0_has yX0_has, .initialized RX0, .code yX0_has cX0_has 2 (some .boolean), .fieldLink RX0 13 "TapePrinter$Row" "size" "I", .fieldLink RX0 7 "TapePrinter$Row" "values" "[I", .methodLink RX3 127 yX0_at, .instanceMethod yX0_at, .selects RX0 yX0_at yX0_at, .code yX0_at cX0_at 2 (some .int), .methodLink RX0 17 yX0_has] ++ wsX30 ++ wsX10 ++ wsX00 ++ (vx_atS RX3 40 "java/lang/IndexOutOfBoundsException" ["java/lang/RuntimeException", "java/lang/Exception"]).filter goodWord)
def wsX3_length : List Cond := .code yX3_length cX3_length 3 (some .int) :: ([.classLink RX3 36 "java/lang/IndexOutOfBoundsException", .initialized "java/lang/IndexOutOfBoundsException", .fieldLink RX3 19 "TapePrinter" "sheet" "LTapePrinter$Sheet;", .methodLink RX3 145 yX1_row, .instanceMethod yX1_row, .selects RX1 yX1_row yX1_row, .initialized RX1, .code yX1_row cX1_row 3 (some (.object "TapePrinter$Row")), .fieldLink RX1 17 "TapePrinter$Sheet" "used" "I", .fieldLink RX1 24 "TapePrinter$Sheet" "first" "I", .fieldLink RX1 11 "TapePrinter$Sheet" "rows" "[LTapePrinter$Row;", .methodLink RX3 107 yX0_size, .instanceMethod yX0_size, .selects RX0 yX0_size yX0_size, .initialized RX0, .code yX0_size cX0_size 1 (some .int), .fieldLink RX0 13 "TapePrinter$Row" "size" "I"] ++ wsX30 ++ wsX10 ++ wsX00 ++ (vx_atS RX3 40 "java/lang/IndexOutOfBoundsException" ["java/lang/RuntimeException", "java/lang/Exception"]).filter goodWord)
def wsX3_counted_r1 : List Cond := [Cond.fieldLink RX3 19 "TapePrinter" "sheet" "LTapePrinter$Sheet;", Cond.fieldLink RX3 61 "TapePrinter" "figures" "Z", Cond.fieldLink RX3 10 "TapePrinter" "wire" "LTapePrinter$Wire;", Cond.fieldLink RX3 28 "TapePrinter" "strip" "LTapePrinter$Row;", Cond.fieldLink RX3 135 "TapePrinter" "reader" "I", Cond.fieldLink RX3 158 "TapePrinter" "came" "I", Cond.fieldLink RX3 198 "TapePrinter" "misread" "I", Cond.fieldLink RX3 201 "TapePrinter" "lost" "I", Cond.fieldLink RX3 90 "TapePrinter" "unshifts" "Z", Cond.fieldLink RX3 204 "TapePrinter" "bells" "I", Cond.methodLink RX3 177 yX1_lines, Cond.instanceMethod yX1_lines, Cond.selects RX1 yX1_lines yX1_lines, Cond.initialized RX1, Cond.code yX1_lines cX1_lines 1 (some .int), Cond.fieldLink RX1 17 "TapePrinter$Sheet" "used" "I", Cond.methodLink RX3 180 yX1_characters, Cond.instanceMethod yX1_characters, Cond.selects RX1 yX1_characters yX1_characters, Cond.code yX1_characters cX1_characters 4 (some .int), Cond.methodLink RX1 27 yX1_row, Cond.instanceMethod yX1_row, Cond.selects RX1 yX1_row yX1_row, Cond.code yX1_row cX1_row 3 (some (.object "TapePrinter$Row"))]
def wsX3_counted_r2 : List Cond := [Cond.fieldLink RX1 24 "TapePrinter$Sheet" "first" "I", Cond.fieldLink RX1 11 "TapePrinter$Sheet" "rows" "[LTapePrinter$Row;", Cond.methodLink RX1 38 yX0_size, Cond.instanceMethod yX0_size, Cond.selects RX0 yX0_size yX0_size, Cond.initialized RX0, Cond.code yX0_size cX0_size 1 (some .int), Cond.fieldLink RX0 13 "TapePrinter$Row" "size" "I", Cond.methodLink RX3 83 yX2_play, Cond.instanceMethod yX2_play, Cond.selects RX2 yX2_play yX2_play, Cond.initialized RX2, Cond.code yX2_play cX2_play 1 (some .int), Cond.fieldLink RX2 27 "TapePrinter$Wire" "play" "I", Cond.methodLink RX3 107 yX0_size]
def wsX3_counted : List Cond := .code yX3_counted cX3_counted 2 (some .int) :: ((wsX3_counted_r1 ++ wsX3_counted_r2) ++ wsX30 ++ wsX10 ++ wsX00 ++ wsX20)
def wsX3_count_r1 : List Cond := [Cond.classLink RX3 36 "java/lang/IndexOutOfBoundsException", Cond.initialized "java/lang/IndexOutOfBoundsException", Cond.methodLink RX3 155 yX3_counted, Cond.instanceMethod yX3_counted, Cond.selects RX3 yX3_counted yX3_counted, Cond.initialized RX3, Cond.code yX3_counted cX3_counted 2 (some .int), Cond.fieldLink RX3 19 "TapePrinter" "sheet" "LTapePrinter$Sheet;", Cond.fieldLink RX3 61 "TapePrinter" "figures" "Z", Cond.fieldLink RX3 10 "TapePrinter" "wire" "LTapePrinter$Wire;", Cond.fieldLink RX3 28 "TapePrinter" "strip" "LTapePrinter$Row;", Cond.fieldLink RX3 135 "TapePrinter" "reader" "I", Cond.fieldLink RX3 158 "TapePrinter" "came" "I", Cond.fieldLink RX3 198 "TapePrinter" "misread" "I", Cond.fieldLink RX3 201 "TapePrinter" "lost" "I", Cond.fieldLink RX3 90 "TapePrinter" "unshifts" "Z", Cond.fieldLink RX3 204 "TapePrinter" "bells" "I", Cond.methodLink RX3 177 yX1_lines, Cond.instanceMethod yX1_lines, Cond.selects RX1 yX1_lines yX1_lines, Cond.initialized RX1, Cond.code yX1_lines cX1_lines 1 (some .int), Cond.fieldLink RX1 17 "TapePrinter$Sheet" "used" "I", Cond.methodLink RX3 180 yX1_characters]
def wsX3_count_r2 : List Cond := [Cond.instanceMethod yX1_characters, Cond.selects RX1 yX1_characters yX1_characters, Cond.code yX1_characters cX1_characters 4 (some .int), Cond.methodLink RX1 27 yX1_row, Cond.instanceMethod yX1_row, Cond.selects RX1 yX1_row yX1_row, Cond.code yX1_row cX1_row 3 (some (.object "TapePrinter$Row")), Cond.fieldLink RX1 24 "TapePrinter$Sheet" "first" "I", Cond.fieldLink RX1 11 "TapePrinter$Sheet" "rows" "[LTapePrinter$Row;", Cond.methodLink RX1 38 yX0_size, Cond.instanceMethod yX0_size, Cond.selects RX0 yX0_size yX0_size, Cond.initialized RX0, Cond.code yX0_size cX0_size 1 (some .int), Cond.fieldLink RX0 13 "TapePrinter$Row" "size" "I", Cond.methodLink RX3 83 yX2_play, Cond.instanceMethod yX2_play, Cond.selects RX2 yX2_play yX2_play, Cond.initialized RX2, Cond.code yX2_play cX2_play 1 (some .int), Cond.fieldLink RX2 27 "TapePrinter$Wire" "play" "I", Cond.methodLink RX3 107 yX0_size]
def wsX3_count : List Cond := .code yX3_count cX3_count 2 (some .int) :: ((wsX3_count_r1 ++ wsX3_count_r2) ++ wsX30 ++ wsX10 ++ wsX00 ++ wsX20 ++ (vx_atS RX3 40 "java/lang/IndexOutOfBoundsException" ["java/lang/RuntimeException", "java/lang/Exception"]).filter goodWord)
def wsX3_would_r1 : List Cond := [Cond.classLink RX3 36 "java/lang/IndexOutOfBoundsException", Cond.initialized "java/lang/IndexOutOfBoundsException", Cond.fieldLink RX3 10 "TapePrinter" "wire" "LTapePrinter$Wire;", Cond.fieldLink RX3 158 "TapePrinter" "came" "I", Cond.methodLink RX3 47 yX3_isCode, Cond.static yX3_isCode, Cond.initialized RX3, Cond.code yX3_isCode cX3_isCode 1 (some .boolean), Cond.methodLink RX3 161 yX2_readAs, Cond.instanceMethod yX2_readAs, Cond.selects RX2 yX2_readAs yX2_readAs, Cond.initialized RX2, Cond.code yX2_readAs cX2_readAs 6 (some .int), Cond.fieldLink RX2 20 "TapePrinter$Wire" "garbled" "LTapePrinter$Row;", Cond.fieldLink RX2 14 "TapePrinter$Wire" "late" "LTapePrinter$Row;", Cond.fieldLink RX2 27 "TapePrinter$Wire" "play" "I", Cond.methodLink RX2 31 yX0_at, Cond.instanceMethod yX0_at, Cond.selects RX0 yX0_at yX0_at, Cond.initialized RX0, Cond.code yX0_at cX0_at 2 (some .int), Cond.fieldLink RX0 7 "TapePrinter$Row" "values" "[I", Cond.methodLink RX0 17 yX0_has, Cond.instanceMethod yX0_has]
def wsX3_would_r2 : List Cond := [Cond.selects RX0 yX0_has yX0_has, Cond.code yX0_has cX0_has 2 (some .boolean), Cond.fieldLink RX0 13 "TapePrinter$Row" "size" "I"]
def wsX3_would : List Cond := .code yX3_would cX3_would 2 (some .int) :: ((wsX3_would_r1 ++ wsX3_would_r2) ++ wsX30 ++ wsX20 ++ wsX00 ++ (vx_atS RX3 40 "java/lang/IndexOutOfBoundsException" ["java/lang/RuntimeException", "java/lang/Exception"]).filter goodWord)
def wsX3_wrong_r1 : List Cond := [Cond.fieldLink RX3 135 "TapePrinter" "reader" "I", Cond.fieldLink RX3 28 "TapePrinter" "strip" "LTapePrinter$Row;", Cond.fieldLink RX3 10 "TapePrinter" "wire" "LTapePrinter$Wire;", Cond.fieldLink RX3 158 "TapePrinter" "came" "I", Cond.methodLink RX3 107 yX0_size, Cond.instanceMethod yX0_size, Cond.selects RX0 yX0_size yX0_size, Cond.initialized RX0, Cond.code yX0_size cX0_size 1 (some .int), Cond.fieldLink RX0 13 "TapePrinter$Row" "size" "I", Cond.methodLink RX3 127 yX0_at, Cond.instanceMethod yX0_at, Cond.selects RX0 yX0_at yX0_at, Cond.code yX0_at cX0_at 2 (some .int), Cond.fieldLink RX0 7 "TapePrinter$Row" "values" "[I", Cond.methodLink RX0 17 yX0_has, Cond.instanceMethod yX0_has, Cond.selects RX0 yX0_has yX0_has, Cond.code yX0_has cX0_has 2 (some .boolean), Cond.methodLink RX3 161 yX2_readAs, Cond.instanceMethod yX2_readAs, Cond.selects RX2 yX2_readAs yX2_readAs, Cond.initialized RX2, Cond.code yX2_readAs cX2_readAs 6 (some .int)]
def wsX3_wrong_r2 : List Cond := [Cond.fieldLink RX2 20 "TapePrinter$Wire" "garbled" "LTapePrinter$Row;", Cond.fieldLink RX2 14 "TapePrinter$Wire" "late" "LTapePrinter$Row;", Cond.fieldLink RX2 27 "TapePrinter$Wire" "play" "I", Cond.methodLink RX2 31 yX0_at]
def wsX3_wrong : List Cond := .code yX3_wrong cX3_wrong 4 (some .int) :: ((wsX3_wrong_r1 ++ wsX3_wrong_r2) ++ wsX30 ++ wsX00 ++ wsX20)
def wsX3_isShift : List Cond := .code yX3_isShift cX3_isShift 1 (some .boolean) :: ([])
def wsX3_servesBehind_r1 : List Cond := [Cond.fieldLink RX3 28 "TapePrinter" "strip" "LTapePrinter$Row;", Cond.methodLink RX3 107 yX0_size, Cond.instanceMethod yX0_size, Cond.selects RX0 yX0_size yX0_size, Cond.initialized RX0, Cond.code yX0_size cX0_size 1 (some .int), Cond.fieldLink RX0 13 "TapePrinter$Row" "size" "I", Cond.methodLink RX3 127 yX0_at, Cond.instanceMethod yX0_at, Cond.selects RX0 yX0_at yX0_at, Cond.code yX0_at cX0_at 2 (some .int), Cond.fieldLink RX0 7 "TapePrinter$Row" "values" "[I", Cond.methodLink RX0 17 yX0_has, Cond.instanceMethod yX0_has, Cond.selects RX0 yX0_has yX0_has, Cond.code yX0_has cX0_has 2 (some .boolean), Cond.methodLink RX3 113 yX3_dependsOnShift, Cond.static yX3_dependsOnShift, Cond.initialized RX3, Cond.code yX3_dependsOnShift cX3_dependsOnShift 2 (some .boolean), Cond.methodLink RX3 211 yX3_characterInLetters, Cond.static yX3_characterInLetters, Cond.code yX3_characterInLetters cX3_characterInLetters 1 (some .int), Cond.fieldLink RX3 214 "TapePrinter" "CHARACTERS" "[I"]
def wsX3_servesBehind_r2 : List Cond := [Cond.methodLink RX3 217 yX3_shiftsToLetters, Cond.instanceMethod yX3_shiftsToLetters, Cond.selects RX3 yX3_shiftsToLetters yX3_shiftsToLetters, Cond.code yX3_shiftsToLetters cX3_shiftsToLetters 2 (some .boolean), Cond.fieldLink RX3 90 "TapePrinter" "unshifts" "Z"]
def wsX3_servesBehind : List Cond := .code yX3_servesBehind cX3_servesBehind 4 (some .boolean) :: ((wsX3_servesBehind_r1 ++ wsX3_servesBehind_r2) ++ wsX30 ++ wsX00)
def wsX3_idle_r1 : List Cond := [Cond.fieldLink RX3 28 "TapePrinter" "strip" "LTapePrinter$Row;", Cond.methodLink RX3 107 yX0_size, Cond.instanceMethod yX0_size, Cond.selects RX0 yX0_size yX0_size, Cond.initialized RX0, Cond.code yX0_size cX0_size 1 (some .int), Cond.fieldLink RX0 13 "TapePrinter$Row" "size" "I", Cond.methodLink RX3 127 yX0_at, Cond.instanceMethod yX0_at, Cond.selects RX0 yX0_at yX0_at, Cond.code yX0_at cX0_at 2 (some .int), Cond.fieldLink RX0 7 "TapePrinter$Row" "values" "[I", Cond.methodLink RX0 17 yX0_has, Cond.instanceMethod yX0_has, Cond.selects RX0 yX0_has yX0_has, Cond.code yX0_has cX0_has 2 (some .boolean), Cond.methodLink RX3 164 yX3_figuresBehind, Cond.instanceMethod yX3_figuresBehind, Cond.selects RX3 yX3_figuresBehind yX3_figuresBehind, Cond.initialized RX3, Cond.code yX3_figuresBehind cX3_figuresBehind 3 (some .boolean), Cond.methodLink RX3 217 yX3_shiftsToLetters, Cond.instanceMethod yX3_shiftsToLetters, Cond.selects RX3 yX3_shiftsToLetters yX3_shiftsToLetters]
def wsX3_idle_r2 : List Cond := [Cond.code yX3_shiftsToLetters cX3_shiftsToLetters 2 (some .boolean), Cond.fieldLink RX3 90 "TapePrinter" "unshifts" "Z", Cond.methodLink RX3 168 yX3_isShift, Cond.static yX3_isShift, Cond.code yX3_isShift cX3_isShift 1 (some .boolean), Cond.methodLink RX3 171 yX3_servesBehind, Cond.instanceMethod yX3_servesBehind, Cond.selects RX3 yX3_servesBehind yX3_servesBehind, Cond.code yX3_servesBehind cX3_servesBehind 4 (some .boolean), Cond.methodLink RX3 113 yX3_dependsOnShift, Cond.static yX3_dependsOnShift, Cond.code yX3_dependsOnShift cX3_dependsOnShift 2 (some .boolean), Cond.methodLink RX3 211 yX3_characterInLetters, Cond.static yX3_characterInLetters, Cond.code yX3_characterInLetters cX3_characterInLetters 1 (some .int), Cond.fieldLink RX3 214 "TapePrinter" "CHARACTERS" "[I"]
def wsX3_idle : List Cond := .code yX3_idle cX3_idle 6 (some .int) :: ((wsX3_idle_r1 ++ wsX3_idle_r2) ++ wsX30 ++ wsX00)
def wsX3_prints_r1 : List Cond := [Cond.classLink RX3 36 "java/lang/IndexOutOfBoundsException", Cond.initialized "java/lang/IndexOutOfBoundsException", Cond.fieldLink RX3 28 "TapePrinter" "strip" "LTapePrinter$Row;", Cond.methodLink RX3 122 yX0_has, Cond.instanceMethod yX0_has, Cond.selects RX0 yX0_has yX0_has, Cond.initialized RX0, Cond.code yX0_has cX0_has 2 (some .boolean), Cond.fieldLink RX0 13 "TapePrinter$Row" "size" "I", Cond.fieldLink RX0 7 "TapePrinter$Row" "values" "[I", Cond.methodLink RX3 127 yX0_at, Cond.instanceMethod yX0_at, Cond.selects RX0 yX0_at yX0_at, Cond.code yX0_at cX0_at 2 (some .int), Cond.methodLink RX0 17 yX0_has, Cond.methodLink RX3 174 yX3_figuresAhead, Cond.instanceMethod yX3_figuresAhead, Cond.selects RX3 yX3_figuresAhead yX3_figuresAhead, Cond.initialized RX3, Cond.code yX3_figuresAhead cX3_figuresAhead 4 (some .boolean), Cond.methodLink RX3 107 yX0_size, Cond.instanceMethod yX0_size, Cond.selects RX0 yX0_size yX0_size, Cond.code yX0_size cX0_size 1 (some .int)]
def wsX3_prints_r2 : List Cond := [Cond.methodLink RX3 164 yX3_figuresBehind, Cond.instanceMethod yX3_figuresBehind, Cond.selects RX3 yX3_figuresBehind yX3_figuresBehind, Cond.code yX3_figuresBehind cX3_figuresBehind 3 (some .boolean), Cond.methodLink RX3 217 yX3_shiftsToLetters, Cond.instanceMethod yX3_shiftsToLetters, Cond.selects RX3 yX3_shiftsToLetters yX3_shiftsToLetters, Cond.code yX3_shiftsToLetters cX3_shiftsToLetters 2 (some .boolean), Cond.fieldLink RX3 90 "TapePrinter" "unshifts" "Z", Cond.methodLink RX3 52 yX3_characterOf, Cond.static yX3_characterOf, Cond.code yX3_characterOf cX3_characterOf 3 (some .int), Cond.methodLink RX3 211 yX3_characterInLetters, Cond.static yX3_characterInLetters, Cond.code yX3_characterInLetters cX3_characterInLetters 1 (some .int), Cond.fieldLink RX3 214 "TapePrinter" "CHARACTERS" "[I", Cond.methodLink RX3 113 yX3_dependsOnShift, Cond.static yX3_dependsOnShift, Cond.code yX3_dependsOnShift cX3_dependsOnShift 2 (some .boolean)]
def wsX3_prints : List Cond := .code yX3_prints cX3_prints 2 (some .int) :: ((wsX3_prints_r1 ++ wsX3_prints_r2) ++ wsX30 ++ wsX00 ++ (vx_atS RX3 40 "java/lang/IndexOutOfBoundsException" ["java/lang/RuntimeException", "java/lang/Exception"]).filter goodWord)
def wsX3_mean : List Cond := .code yX3_mean cX3_mean 2 (some .double) :: ([.fieldLink RX3 19 "TapePrinter" "sheet" "LTapePrinter$Sheet;", .methodLink RX3 177 yX1_lines, .instanceMethod yX1_lines, .selects RX1 yX1_lines yX1_lines, .initialized RX1, .code yX1_lines cX1_lines 1 (some .int), .fieldLink RX1 17 "TapePrinter$Sheet" "used" "I", .methodLink RX3 180 yX1_characters, .instanceMethod yX1_characters, .selects RX1 yX1_characters yX1_characters, .code yX1_characters cX1_characters 4 (some .int), .methodLink RX1 27 yX1_row, .instanceMethod yX1_row, .selects RX1 yX1_row yX1_row, .code yX1_row cX1_row 3 (some (.object "TapePrinter$Row")), .fieldLink RX1 24 "TapePrinter$Sheet" "first" "I", .fieldLink RX1 11 "TapePrinter$Sheet" "rows" "[LTapePrinter$Row;", .methodLink RX1 38 yX0_size, .instanceMethod yX0_size, .selects RX0 yX0_size yX0_size, .initialized RX0, .code yX0_size cX0_size 1 (some .int), .fieldLink RX0 13 "TapePrinter$Row" "size" "I"] ++ wsX30 ++ wsX10 ++ wsX00)
def wsX3_mixed : List Cond := .code yX3_mixed cX3_mixed 3 (some .long) :: ([.constantLong RX3 196 (31)])
def wsX3_mixedRow : List Cond := .code yX3_mixedRow cX3_mixedRow 6 (some .long) :: ([.methodLink RX3 107 yX0_size, .instanceMethod yX0_size, .selects RX0 yX0_size yX0_size, .initialized RX0, .code yX0_size cX0_size 1 (some .int), .fieldLink RX0 13 "TapePrinter$Row" "size" "I", .methodLink RX3 127 yX0_at, .instanceMethod yX0_at, .selects RX0 yX0_at yX0_at, .code yX0_at cX0_at 2 (some .int), .fieldLink RX0 7 "TapePrinter$Row" "values" "[I", .methodLink RX0 17 yX0_has, .instanceMethod yX0_has, .selects RX0 yX0_has yX0_has, .code yX0_has cX0_has 2 (some .boolean), .methodLink RX3 185 yX3_mixed, .static yX3_mixed, .initialized RX3, .code yX3_mixed cX3_mixed 3 (some .long), .constantLong RX3 196 (31)] ++ wsX00)
def wsX3_digest_r1 : List Cond := [Cond.constantLong RX3 183 (1373), Cond.fieldLink RX3 10 "TapePrinter" "wire" "LTapePrinter$Wire;", Cond.fieldLink RX3 19 "TapePrinter" "sheet" "LTapePrinter$Sheet;", Cond.fieldLink RX3 28 "TapePrinter" "strip" "LTapePrinter$Row;", Cond.methodLink RX3 155 yX3_counted, Cond.instanceMethod yX3_counted, Cond.selects RX3 yX3_counted yX3_counted, Cond.initialized RX3, Cond.code yX3_counted cX3_counted 2 (some .int), Cond.fieldLink RX3 61 "TapePrinter" "figures" "Z", Cond.fieldLink RX3 135 "TapePrinter" "reader" "I", Cond.fieldLink RX3 158 "TapePrinter" "came" "I", Cond.fieldLink RX3 198 "TapePrinter" "misread" "I", Cond.fieldLink RX3 201 "TapePrinter" "lost" "I", Cond.fieldLink RX3 90 "TapePrinter" "unshifts" "Z", Cond.fieldLink RX3 204 "TapePrinter" "bells" "I", Cond.methodLink RX3 177 yX1_lines, Cond.instanceMethod yX1_lines, Cond.selects RX1 yX1_lines yX1_lines, Cond.initialized RX1, Cond.code yX1_lines cX1_lines 1 (some .int), Cond.fieldLink RX1 17 "TapePrinter$Sheet" "used" "I", Cond.methodLink RX3 180 yX1_characters, Cond.instanceMethod yX1_characters]
def wsX3_digest_r2 : List Cond := [Cond.selects RX1 yX1_characters yX1_characters, Cond.code yX1_characters cX1_characters 4 (some .int), Cond.methodLink RX1 27 yX1_row, Cond.instanceMethod yX1_row, Cond.selects RX1 yX1_row yX1_row, Cond.code yX1_row cX1_row 3 (some (.object "TapePrinter$Row")), Cond.fieldLink RX1 24 "TapePrinter$Sheet" "first" "I", Cond.fieldLink RX1 11 "TapePrinter$Sheet" "rows" "[LTapePrinter$Row;", Cond.methodLink RX1 38 yX0_size, Cond.instanceMethod yX0_size, Cond.selects RX0 yX0_size yX0_size, Cond.initialized RX0, Cond.code yX0_size cX0_size 1 (some .int), Cond.fieldLink RX0 13 "TapePrinter$Row" "size" "I", Cond.methodLink RX3 83 yX2_play, Cond.instanceMethod yX2_play, Cond.selects RX2 yX2_play yX2_play, Cond.initialized RX2, Cond.code yX2_play cX2_play 1 (some .int), Cond.fieldLink RX2 27 "TapePrinter$Wire" "play" "I", Cond.methodLink RX3 107 yX0_size, Cond.methodLink RX3 185 yX3_mixed, Cond.static yX3_mixed, Cond.code yX3_mixed cX3_mixed 3 (some .long)]
def wsX3_digest_r3 : List Cond := [Cond.constantLong RX3 196 (31), Cond.methodLink RX3 74 yX2_lateAt, Cond.instanceMethod yX2_lateAt, Cond.selects RX2 yX2_lateAt yX2_lateAt, Cond.code yX2_lateAt cX2_lateAt 2 (some .int), Cond.fieldLink RX2 14 "TapePrinter$Wire" "late" "LTapePrinter$Row;", Cond.methodLink RX2 31 yX0_at, Cond.instanceMethod yX0_at, Cond.selects RX0 yX0_at yX0_at, Cond.code yX0_at cX0_at 2 (some .int), Cond.fieldLink RX0 7 "TapePrinter$Row" "values" "[I", Cond.methodLink RX0 17 yX0_has, Cond.instanceMethod yX0_has, Cond.selects RX0 yX0_has yX0_has, Cond.code yX0_has cX0_has 2 (some .boolean), Cond.methodLink RX3 189 yX2_garbledAt, Cond.instanceMethod yX2_garbledAt, Cond.selects RX2 yX2_garbledAt yX2_garbledAt, Cond.code yX2_garbledAt cX2_garbledAt 2 (some .int), Cond.fieldLink RX2 20 "TapePrinter$Wire" "garbled" "LTapePrinter$Row;", Cond.methodLink RX3 145 yX1_row, Cond.methodLink RX3 192 yX3_mixedRow, Cond.static yX3_mixedRow, Cond.code yX3_mixedRow cX3_mixedRow 6 (some .long)]
def wsX3_digest_r4 : List Cond := [Cond.methodLink RX3 127 yX0_at]
def wsX3_digest : List Cond := .code yX3_digest cX3_digest 5 (some .long) :: ((wsX3_digest_r1 ++ (wsX3_digest_r2 ++ (wsX3_digest_r3 ++ wsX3_digest_r4))) ++ wsX30 ++ wsX10 ++ wsX00 ++ wsX20)
def wsX4_init : List Cond := .code yX4_init cX4_init 1 none :: ([.methodLink RX4 1 objectInit, .instanceMethod objectInit, .code objectInit ⟨#[0xb1]⟩ 1 none, .fieldLink RX4 7 "TapePrinterModel" "lines" "I", .arrayClass .int, .fieldLink RX4 13 "TapePrinterModel" "longs" "[I", .fieldLink RX4 17 "TapePrinterModel" "page" "[I", .fieldLink RX4 20 "TapePrinterModel" "lates" "[I", .fieldLink RX4 23 "TapePrinterModel" "garbles" "[I", .fieldLink RX4 26 "TapePrinterModel" "tape" "[I"] ++ wsX40)
def wsX4_thrown : List Cond := .code yX4_thrown cX4_thrown 1 (some .int) :: ([.fieldLink RX4 29 "TapePrinterModel" "thrown" "I"] ++ wsX40)
def wsX4_fail : List Cond := .code yX4_fail cX4_fail 2 (some .int) :: ([.fieldLink RX4 29 "TapePrinterModel" "thrown" "I"] ++ wsX40)
def wsX4_isIn : List Cond := .code yX4_isIn cX4_isIn 3 (some .boolean) :: ([])
def wsX4_isCode : List Cond := .code yX4_isCode cX4_isCode 1 (some .boolean) :: ([.methodLink RX4 32 yX4_isIn, .static yX4_isIn, .initialized RX4, .code yX4_isIn cX4_isIn 3 (some .boolean)])
def wsX4_isCharacter : List Cond := .code yX4_isCharacter cX4_isCharacter 1 (some .boolean) :: ([.methodLink RX4 32 yX4_isIn, .static yX4_isIn, .initialized RX4, .code yX4_isIn cX4_isIn 3 (some .boolean)])
def wsX4_isType : List Cond := .code yX4_isType cX4_isType 1 (some .boolean) :: ([])
def wsX4_codeOf : List Cond := .code yX4_codeOf cX4_codeOf 3 (some .int) :: ([.methodLink RX4 36 yX4_isType, .static yX4_isType, .initialized RX4, .code yX4_isType cX4_isType 1 (some .boolean)])
def wsX4_characterOf : List Cond := .code yX4_characterOf cX4_characterOf 4 (some .int) :: ([.methodLink RX4 36 yX4_isType, .static yX4_isType, .initialized RX4, .code yX4_isType cX4_isType 1 (some .boolean)])
def wsX4_size : List Cond := .code yX4_size cX4_size 3 (some .int) :: ([])
def wsX4_code : List Cond := .code yX4_code cX4_code 2 (some .int) :: ([.fieldLink RX4 29 "TapePrinterModel" "thrown" "I", .methodLink RX4 40 yX4_isCharacter, .static yX4_isCharacter, .initialized RX4, .code yX4_isCharacter cX4_isCharacter 1 (some .boolean), .methodLink RX4 32 yX4_isIn, .static yX4_isIn, .code yX4_isIn cX4_isIn 3 (some .boolean), .methodLink RX4 43 yX4_codeOf, .static yX4_codeOf, .code yX4_codeOf cX4_codeOf 3 (some .int), .methodLink RX4 36 yX4_isType, .static yX4_isType, .code yX4_isType cX4_isType 1 (some .boolean), .methodLink RX4 47 yX4_fail, .instanceMethod yX4_fail, .selects RX4 yX4_fail yX4_fail, .code yX4_fail cX4_fail 2 (some .int)] ++ wsX40)
def wsX4_character : List Cond := .code yX4_character cX4_character 3 (some .int) :: ([.fieldLink RX4 29 "TapePrinterModel" "thrown" "I", .methodLink RX4 50 yX4_isCode, .static yX4_isCode, .initialized RX4, .code yX4_isCode cX4_isCode 1 (some .boolean), .methodLink RX4 32 yX4_isIn, .static yX4_isIn, .code yX4_isIn cX4_isIn 3 (some .boolean), .methodLink RX4 53 yX4_characterOf, .static yX4_characterOf, .code yX4_characterOf cX4_characterOf 4 (some .int), .methodLink RX4 36 yX4_isType, .static yX4_isType, .code yX4_isType cX4_isType 1 (some .boolean), .methodLink RX4 47 yX4_fail, .instanceMethod yX4_fail, .selects RX4 yX4_fail yX4_fail, .code yX4_fail cX4_fail 2 (some .int)] ++ wsX40)
def wsX4_apart : List Cond := .code yX4_apart cX4_apart 3 (some .int) :: ([.fieldLink RX4 29 "TapePrinterModel" "thrown" "I", .methodLink RX4 40 yX4_isCharacter, .static yX4_isCharacter, .initialized RX4, .code yX4_isCharacter cX4_isCharacter 1 (some .boolean), .methodLink RX4 32 yX4_isIn, .static yX4_isIn, .code yX4_isIn cX4_isIn 3 (some .boolean), .methodLink RX4 43 yX4_codeOf, .static yX4_codeOf, .code yX4_codeOf cX4_codeOf 3 (some .int), .methodLink RX4 36 yX4_isType, .static yX4_isType, .code yX4_isType cX4_isType 1 (some .boolean), .methodLink RX4 57 yX4_size, .static yX4_size, .code yX4_size cX4_size 3 (some .int), .methodLink RX4 47 yX4_fail, .instanceMethod yX4_fail, .selects RX4 yX4_fail yX4_fail, .code yX4_fail cX4_fail 2 (some .int)] ++ wsX40)
def wsX4_doubts : List Cond := .code yX4_doubts cX4_doubts 4 (some .int) :: ([.fieldLink RX4 29 "TapePrinterModel" "thrown" "I", .fieldLink RX4 60 "TapePrinterModel" "isFigures" "Z", .methodLink RX4 50 yX4_isCode, .static yX4_isCode, .initialized RX4, .code yX4_isCode cX4_isCode 1 (some .boolean), .methodLink RX4 32 yX4_isIn, .static yX4_isIn, .code yX4_isIn cX4_isIn 3 (some .boolean), .methodLink RX4 47 yX4_fail, .instanceMethod yX4_fail, .selects RX4 yX4_fail yX4_fail, .code yX4_fail cX4_fail 2 (some .int), .methodLink RX4 53 yX4_characterOf, .static yX4_characterOf, .code yX4_characterOf cX4_characterOf 4 (some .int), .methodLink RX4 36 yX4_isType, .static yX4_isType, .code yX4_isType cX4_isType 1 (some .boolean)] ++ wsX40)
def wsX4_setLine : List Cond := .code yX4_setLine cX4_setLine 5 (some .int) :: ([.fieldLink RX4 29 "TapePrinterModel" "thrown" "I", .fieldLink RX4 20 "TapePrinterModel" "lates" "[I", .fieldLink RX4 23 "TapePrinterModel" "garbles" "[I", .methodLink RX4 32 yX4_isIn, .static yX4_isIn, .initialized RX4, .code yX4_isIn cX4_isIn 3 (some .boolean), .methodLink RX4 47 yX4_fail, .instanceMethod yX4_fail, .selects RX4 yX4_fail yX4_fail, .code yX4_fail cX4_fail 2 (some .int), .methodLink RX4 50 yX4_isCode, .static yX4_isCode, .code yX4_isCode cX4_isCode 1 (some .boolean)] ++ wsX40)
def wsX4_setPlay : List Cond := .code yX4_setPlay cX4_setPlay 3 (some .int) :: ([.fieldLink RX4 29 "TapePrinterModel" "thrown" "I", .fieldLink RX4 64 "TapePrinterModel" "play" "I", .methodLink RX4 32 yX4_isIn, .static yX4_isIn, .initialized RX4, .code yX4_isIn cX4_isIn 3 (some .boolean), .methodLink RX4 47 yX4_fail, .instanceMethod yX4_fail, .selects RX4 yX4_fail yX4_fail, .code yX4_fail cX4_fail 2 (some .int)] ++ wsX40)
def wsX4_setUnshift : List Cond := .code yX4_setUnshift cX4_setUnshift 3 (some .boolean) :: ([.fieldLink RX4 29 "TapePrinterModel" "thrown" "I", .fieldLink RX4 67 "TapePrinterModel" "unshifts" "Z"] ++ wsX40)
def wsX4_shift : List Cond := .code yX4_shift cX4_shift 3 (some .boolean) :: ([.fieldLink RX4 67 "TapePrinterModel" "unshifts" "Z"] ++ wsX40)
def wsX4_set : List Cond := .code yX4_set cX4_set 2 none :: ([.fieldLink RX4 13 "TapePrinterModel" "longs" "[I", .fieldLink RX4 7 "TapePrinterModel" "lines" "I", .fieldLink RX4 70 "TapePrinterModel" "lost" "I", .fieldLink RX4 17 "TapePrinterModel" "page" "[I"] ++ wsX40)
def wsX4_feed : List Cond := .code yX4_feed cX4_feed 1 none :: ([.fieldLink RX4 7 "TapePrinterModel" "lines" "I", .fieldLink RX4 17 "TapePrinterModel" "page" "[I", .methodLink RX4 73 arraycopyName, .native arraycopyName, .static arraycopyName, .initialized "java/lang/System", .fieldLink RX4 13 "TapePrinterModel" "longs" "[I"] ++ wsX40)
def wsX4_print_r1 : List Cond := [Cond.fieldLink RX4 82 "TapePrinterModel" "rang" "I", Cond.fieldLink RX4 60 "TapePrinterModel" "isFigures" "Z", Cond.methodLink RX4 79 yX4_feed, Cond.instanceMethod yX4_feed, Cond.selects RX4 yX4_feed yX4_feed, Cond.initialized RX4, Cond.code yX4_feed cX4_feed 1 none, Cond.fieldLink RX4 7 "TapePrinterModel" "lines" "I", Cond.fieldLink RX4 17 "TapePrinterModel" "page" "[I", Cond.methodLink RX4 73 arraycopyName, Cond.native arraycopyName, Cond.static arraycopyName, Cond.initialized "java/lang/System", Cond.fieldLink RX4 13 "TapePrinterModel" "longs" "[I", Cond.methodLink RX4 53 yX4_characterOf, Cond.static yX4_characterOf, Cond.code yX4_characterOf cX4_characterOf 4 (some .int), Cond.methodLink RX4 36 yX4_isType, Cond.static yX4_isType, Cond.code yX4_isType cX4_isType 1 (some .boolean), Cond.methodLink RX4 85 yX4_set, Cond.instanceMethod yX4_set, Cond.selects RX4 yX4_set yX4_set, Cond.code yX4_set cX4_set 2 none]
def wsX4_print_r2 : List Cond := [Cond.fieldLink RX4 70 "TapePrinterModel" "lost" "I", Cond.methodLink RX4 89 yX4_shift, Cond.instanceMethod yX4_shift, Cond.selects RX4 yX4_shift yX4_shift, Cond.code yX4_shift cX4_shift 3 (some .boolean), Cond.fieldLink RX4 67 "TapePrinterModel" "unshifts" "Z"]
def wsX4_print : List Cond := .code yX4_print cX4_print 2 none :: ((wsX4_print_r1 ++ wsX4_print_r2) ++ wsX40)
def wsX4_read : List Cond := .code yX4_read cX4_read 5 (some .int) :: ([.fieldLink RX4 23 "TapePrinterModel" "garbles" "[I", .fieldLink RX4 20 "TapePrinterModel" "lates" "[I", .fieldLink RX4 64 "TapePrinterModel" "play" "I"] ++ wsX40)
def wsX4_come_r1 : List Cond := [Cond.fieldLink RX4 93 "TapePrinterModel" "came" "I", Cond.fieldLink RX4 100 "TapePrinterModel" "wrongly" "I", Cond.methodLink RX4 96 yX4_read, Cond.instanceMethod yX4_read, Cond.selects RX4 yX4_read yX4_read, Cond.initialized RX4, Cond.code yX4_read cX4_read 5 (some .int), Cond.fieldLink RX4 23 "TapePrinterModel" "garbles" "[I", Cond.fieldLink RX4 20 "TapePrinterModel" "lates" "[I", Cond.fieldLink RX4 64 "TapePrinterModel" "play" "I", Cond.methodLink RX4 103 yX4_print, Cond.instanceMethod yX4_print, Cond.selects RX4 yX4_print yX4_print, Cond.code yX4_print cX4_print 2 none, Cond.fieldLink RX4 82 "TapePrinterModel" "rang" "I", Cond.fieldLink RX4 60 "TapePrinterModel" "isFigures" "Z", Cond.methodLink RX4 79 yX4_feed, Cond.instanceMethod yX4_feed, Cond.selects RX4 yX4_feed yX4_feed, Cond.code yX4_feed cX4_feed 1 none, Cond.fieldLink RX4 7 "TapePrinterModel" "lines" "I", Cond.fieldLink RX4 17 "TapePrinterModel" "page" "[I", Cond.methodLink RX4 73 arraycopyName, Cond.native arraycopyName]
def wsX4_come_r2 : List Cond := [Cond.static arraycopyName, Cond.initialized "java/lang/System", Cond.fieldLink RX4 13 "TapePrinterModel" "longs" "[I", Cond.methodLink RX4 53 yX4_characterOf, Cond.static yX4_characterOf, Cond.code yX4_characterOf cX4_characterOf 4 (some .int), Cond.methodLink RX4 36 yX4_isType, Cond.static yX4_isType, Cond.code yX4_isType cX4_isType 1 (some .boolean), Cond.methodLink RX4 85 yX4_set, Cond.instanceMethod yX4_set, Cond.selects RX4 yX4_set yX4_set, Cond.code yX4_set cX4_set 2 none, Cond.fieldLink RX4 70 "TapePrinterModel" "lost" "I", Cond.methodLink RX4 89 yX4_shift, Cond.instanceMethod yX4_shift, Cond.selects RX4 yX4_shift yX4_shift, Cond.code yX4_shift cX4_shift 3 (some .boolean), Cond.fieldLink RX4 67 "TapePrinterModel" "unshifts" "Z"]
def wsX4_come : List Cond := .code yX4_come cX4_come 3 (some .int) :: ((wsX4_come_r1 ++ wsX4_come_r2) ++ wsX40)
def wsX4_receive_r1 : List Cond := [Cond.fieldLink RX4 29 "TapePrinterModel" "thrown" "I", Cond.methodLink RX4 50 yX4_isCode, Cond.static yX4_isCode, Cond.initialized RX4, Cond.code yX4_isCode cX4_isCode 1 (some .boolean), Cond.methodLink RX4 32 yX4_isIn, Cond.static yX4_isIn, Cond.code yX4_isIn cX4_isIn 3 (some .boolean), Cond.methodLink RX4 106 yX4_come, Cond.instanceMethod yX4_come, Cond.selects RX4 yX4_come yX4_come, Cond.code yX4_come cX4_come 3 (some .int), Cond.fieldLink RX4 93 "TapePrinterModel" "came" "I", Cond.fieldLink RX4 100 "TapePrinterModel" "wrongly" "I", Cond.methodLink RX4 96 yX4_read, Cond.instanceMethod yX4_read, Cond.selects RX4 yX4_read yX4_read, Cond.code yX4_read cX4_read 5 (some .int), Cond.fieldLink RX4 23 "TapePrinterModel" "garbles" "[I", Cond.fieldLink RX4 20 "TapePrinterModel" "lates" "[I", Cond.fieldLink RX4 64 "TapePrinterModel" "play" "I", Cond.methodLink RX4 103 yX4_print, Cond.instanceMethod yX4_print, Cond.selects RX4 yX4_print yX4_print]
def wsX4_receive_r2 : List Cond := [Cond.code yX4_print cX4_print 2 none, Cond.fieldLink RX4 82 "TapePrinterModel" "rang" "I", Cond.fieldLink RX4 60 "TapePrinterModel" "isFigures" "Z", Cond.methodLink RX4 79 yX4_feed, Cond.instanceMethod yX4_feed, Cond.selects RX4 yX4_feed yX4_feed, Cond.code yX4_feed cX4_feed 1 none, Cond.fieldLink RX4 7 "TapePrinterModel" "lines" "I", Cond.fieldLink RX4 17 "TapePrinterModel" "page" "[I", Cond.methodLink RX4 73 arraycopyName, Cond.native arraycopyName, Cond.static arraycopyName, Cond.initialized "java/lang/System", Cond.fieldLink RX4 13 "TapePrinterModel" "longs" "[I", Cond.methodLink RX4 53 yX4_characterOf, Cond.static yX4_characterOf, Cond.code yX4_characterOf cX4_characterOf 4 (some .int), Cond.methodLink RX4 36 yX4_isType, Cond.static yX4_isType, Cond.code yX4_isType cX4_isType 1 (some .boolean), Cond.methodLink RX4 85 yX4_set, Cond.instanceMethod yX4_set, Cond.selects RX4 yX4_set yX4_set, Cond.code yX4_set cX4_set 2 none]
def wsX4_receive_r3 : List Cond := [Cond.fieldLink RX4 70 "TapePrinterModel" "lost" "I", Cond.methodLink RX4 89 yX4_shift, Cond.instanceMethod yX4_shift, Cond.selects RX4 yX4_shift yX4_shift, Cond.code yX4_shift cX4_shift 3 (some .boolean), Cond.fieldLink RX4 67 "TapePrinterModel" "unshifts" "Z", Cond.methodLink RX4 47 yX4_fail, Cond.instanceMethod yX4_fail, Cond.selects RX4 yX4_fail yX4_fail, Cond.code yX4_fail cX4_fail 2 (some .int)]
def wsX4_receive : List Cond := .code yX4_receive cX4_receive 2 (some .int) :: ((wsX4_receive_r1 ++ (wsX4_receive_r2 ++ wsX4_receive_r3)) ++ wsX40)
def wsX4_put : List Cond := .code yX4_put cX4_put 2 none :: ([.fieldLink RX4 26 "TapePrinterModel" "tape" "[I", .fieldLink RX4 109 "TapePrinterModel" "codes" "I"] ++ wsX40)
def wsX4_punch : List Cond := .code yX4_punch cX4_punch 2 (some .int) :: ([.fieldLink RX4 29 "TapePrinterModel" "thrown" "I", .fieldLink RX4 109 "TapePrinterModel" "codes" "I", .methodLink RX4 50 yX4_isCode, .static yX4_isCode, .initialized RX4, .code yX4_isCode cX4_isCode 1 (some .boolean), .methodLink RX4 32 yX4_isIn, .static yX4_isIn, .code yX4_isIn cX4_isIn 3 (some .boolean), .methodLink RX4 47 yX4_fail, .instanceMethod yX4_fail, .selects RX4 yX4_fail yX4_fail, .code yX4_fail cX4_fail 2 (some .int), .methodLink RX4 112 yX4_put, .instanceMethod yX4_put, .selects RX4 yX4_put yX4_put, .code yX4_put cX4_put 2 none, .fieldLink RX4 26 "TapePrinterModel" "tape" "[I"] ++ wsX40)
def wsX4_shiftAt : List Cond := .code yX4_shiftAt cX4_shiftAt 4 (some .boolean) :: ([.fieldLink RX4 26 "TapePrinterModel" "tape" "[I", .methodLink RX4 89 yX4_shift, .instanceMethod yX4_shift, .selects RX4 yX4_shift yX4_shift, .initialized RX4, .code yX4_shift cX4_shift 3 (some .boolean), .fieldLink RX4 67 "TapePrinterModel" "unshifts" "Z"] ++ wsX40)
def wsX4_type_r1 : List Cond := [Cond.fieldLink RX4 29 "TapePrinterModel" "thrown" "I", Cond.fieldLink RX4 109 "TapePrinterModel" "codes" "I", Cond.methodLink RX4 40 yX4_isCharacter, Cond.static yX4_isCharacter, Cond.initialized RX4, Cond.code yX4_isCharacter cX4_isCharacter 1 (some .boolean), Cond.methodLink RX4 32 yX4_isIn, Cond.static yX4_isIn, Cond.code yX4_isIn cX4_isIn 3 (some .boolean), Cond.methodLink RX4 47 yX4_fail, Cond.instanceMethod yX4_fail, Cond.selects RX4 yX4_fail yX4_fail, Cond.code yX4_fail cX4_fail 2 (some .int), Cond.methodLink RX4 115 yX4_shiftAt, Cond.instanceMethod yX4_shiftAt, Cond.selects RX4 yX4_shiftAt yX4_shiftAt, Cond.code yX4_shiftAt cX4_shiftAt 4 (some .boolean), Cond.fieldLink RX4 26 "TapePrinterModel" "tape" "[I", Cond.methodLink RX4 89 yX4_shift, Cond.instanceMethod yX4_shift, Cond.selects RX4 yX4_shift yX4_shift, Cond.code yX4_shift cX4_shift 3 (some .boolean), Cond.fieldLink RX4 67 "TapePrinterModel" "unshifts" "Z", Cond.methodLink RX4 112 yX4_put]
def wsX4_type_r2 : List Cond := [Cond.instanceMethod yX4_put, Cond.selects RX4 yX4_put yX4_put, Cond.code yX4_put cX4_put 2 none, Cond.methodLink RX4 43 yX4_codeOf, Cond.static yX4_codeOf, Cond.code yX4_codeOf cX4_codeOf 3 (some .int), Cond.methodLink RX4 36 yX4_isType, Cond.static yX4_isType, Cond.code yX4_isType cX4_isType 1 (some .boolean)]
def wsX4_type : List Cond := .code yX4_type cX4_type 4 (some .int) :: ((wsX4_type_r1 ++ wsX4_type_r2) ++ wsX40)
def wsX4_isPlace : List Cond := .code yX4_isPlace cX4_isPlace 2 (some .boolean) :: ([.fieldLink RX4 109 "TapePrinterModel" "codes" "I", .methodLink RX4 32 yX4_isIn, .static yX4_isIn, .initialized RX4, .code yX4_isIn cX4_isIn 3 (some .boolean)] ++ wsX40)
def wsX4_rub : List Cond := .code yX4_rub cX4_rub 3 (some .int) :: ([.fieldLink RX4 29 "TapePrinterModel" "thrown" "I", .fieldLink RX4 26 "TapePrinterModel" "tape" "[I", .methodLink RX4 118 yX4_isPlace, .instanceMethod yX4_isPlace, .selects RX4 yX4_isPlace yX4_isPlace, .initialized RX4, .code yX4_isPlace cX4_isPlace 2 (some .boolean), .fieldLink RX4 109 "TapePrinterModel" "codes" "I", .methodLink RX4 32 yX4_isIn, .static yX4_isIn, .code yX4_isIn cX4_isIn 3 (some .boolean), .methodLink RX4 47 yX4_fail, .instanceMethod yX4_fail, .selects RX4 yX4_fail yX4_fail, .code yX4_fail cX4_fail 2 (some .int)] ++ wsX40)
def wsX4_run_r1 : List Cond := [Cond.fieldLink RX4 29 "TapePrinterModel" "thrown" "I", Cond.fieldLink RX4 109 "TapePrinterModel" "codes" "I", Cond.fieldLink RX4 121 "TapePrinterModel" "reader" "I", Cond.methodLink RX4 124 Lib.Math.min.name, Cond.static Lib.Math.min.name, Cond.initialized "java/lang/Math", Cond.code Lib.Math.min.name Lib.Math.min.code 2 (some .int), Cond.fieldLink RX4 26 "TapePrinterModel" "tape" "[I", Cond.methodLink RX4 32 yX4_isIn, Cond.static yX4_isIn, Cond.initialized RX4, Cond.code yX4_isIn cX4_isIn 3 (some .boolean), Cond.methodLink RX4 47 yX4_fail, Cond.instanceMethod yX4_fail, Cond.selects RX4 yX4_fail yX4_fail, Cond.code yX4_fail cX4_fail 2 (some .int), Cond.methodLink RX4 106 yX4_come, Cond.instanceMethod yX4_come, Cond.selects RX4 yX4_come yX4_come, Cond.code yX4_come cX4_come 3 (some .int), Cond.fieldLink RX4 93 "TapePrinterModel" "came" "I", Cond.fieldLink RX4 100 "TapePrinterModel" "wrongly" "I", Cond.methodLink RX4 96 yX4_read, Cond.instanceMethod yX4_read]
def wsX4_run_r2 : List Cond := [Cond.selects RX4 yX4_read yX4_read, Cond.code yX4_read cX4_read 5 (some .int), Cond.fieldLink RX4 23 "TapePrinterModel" "garbles" "[I", Cond.fieldLink RX4 20 "TapePrinterModel" "lates" "[I", Cond.fieldLink RX4 64 "TapePrinterModel" "play" "I", Cond.methodLink RX4 103 yX4_print, Cond.instanceMethod yX4_print, Cond.selects RX4 yX4_print yX4_print, Cond.code yX4_print cX4_print 2 none, Cond.fieldLink RX4 82 "TapePrinterModel" "rang" "I", Cond.fieldLink RX4 60 "TapePrinterModel" "isFigures" "Z", Cond.methodLink RX4 79 yX4_feed, Cond.instanceMethod yX4_feed, Cond.selects RX4 yX4_feed yX4_feed, Cond.code yX4_feed cX4_feed 1 none, Cond.fieldLink RX4 7 "TapePrinterModel" "lines" "I", Cond.fieldLink RX4 17 "TapePrinterModel" "page" "[I", Cond.methodLink RX4 73 arraycopyName, Cond.native arraycopyName, Cond.static arraycopyName, Cond.initialized "java/lang/System", Cond.fieldLink RX4 13 "TapePrinterModel" "longs" "[I", Cond.methodLink RX4 53 yX4_characterOf, Cond.static yX4_characterOf]
def wsX4_run_r3 : List Cond := [Cond.code yX4_characterOf cX4_characterOf 4 (some .int), Cond.methodLink RX4 36 yX4_isType, Cond.static yX4_isType, Cond.code yX4_isType cX4_isType 1 (some .boolean), Cond.methodLink RX4 85 yX4_set, Cond.instanceMethod yX4_set, Cond.selects RX4 yX4_set yX4_set, Cond.code yX4_set cX4_set 2 none, Cond.fieldLink RX4 70 "TapePrinterModel" "lost" "I", Cond.methodLink RX4 89 yX4_shift, Cond.instanceMethod yX4_shift, Cond.selects RX4 yX4_shift yX4_shift, Cond.code yX4_shift cX4_shift 3 (some .boolean), Cond.fieldLink RX4 67 "TapePrinterModel" "unshifts" "Z"]
def wsX4_run : List Cond := .code yX4_run cX4_run 4 (some .int) :: ((wsX4_run_r1 ++ (wsX4_run_r2 ++ wsX4_run_r3)) ++ wsX40)
def wsX4_wind : List Cond := .code yX4_wind cX4_wind 3 (some .int) :: ([.fieldLink RX4 29 "TapePrinterModel" "thrown" "I", .fieldLink RX4 109 "TapePrinterModel" "codes" "I", .fieldLink RX4 121 "TapePrinterModel" "reader" "I", .methodLink RX4 32 yX4_isIn, .static yX4_isIn, .initialized RX4, .code yX4_isIn cX4_isIn 3 (some .boolean), .methodLink RX4 47 yX4_fail, .instanceMethod yX4_fail, .selects RX4 yX4_fail yX4_fail, .code yX4_fail cX4_fail 2 (some .int)] ++ wsX40)
def wsX4_tape : List Cond := .code yX4_tape cX4_tape 2 (some .int) :: ([.fieldLink RX4 29 "TapePrinterModel" "thrown" "I", .fieldLink RX4 26 "TapePrinterModel" "tape" "[I", .methodLink RX4 118 yX4_isPlace, .instanceMethod yX4_isPlace, .selects RX4 yX4_isPlace yX4_isPlace, .initialized RX4, .code yX4_isPlace cX4_isPlace 2 (some .boolean), .fieldLink RX4 109 "TapePrinterModel" "codes" "I", .methodLink RX4 32 yX4_isIn, .static yX4_isIn, .code yX4_isIn cX4_isIn 3 (some .boolean), .methodLink RX4 47 yX4_fail, .instanceMethod yX4_fail, .selects RX4 yX4_fail yX4_fail, .code yX4_fail cX4_fail 2 (some .int)] ++ wsX40)
def wsX4_isLine : List Cond := .code yX4_isLine cX4_isLine 2 (some .boolean) :: ([.fieldLink RX4 7 "TapePrinterModel" "lines" "I", .methodLink RX4 32 yX4_isIn, .static yX4_isIn, .initialized RX4, .code yX4_isIn cX4_isIn 3 (some .boolean)] ++ wsX40)
def wsX4_page : List Cond := .code yX4_page cX4_page 3 (some .int) :: ([.fieldLink RX4 29 "TapePrinterModel" "thrown" "I", .fieldLink RX4 13 "TapePrinterModel" "longs" "[I", .fieldLink RX4 17 "TapePrinterModel" "page" "[I", .methodLink RX4 129 yX4_isLine, .instanceMethod yX4_isLine, .selects RX4 yX4_isLine yX4_isLine, .initialized RX4, .code yX4_isLine cX4_isLine 2 (some .boolean), .fieldLink RX4 7 "TapePrinterModel" "lines" "I", .methodLink RX4 32 yX4_isIn, .static yX4_isIn, .code yX4_isIn cX4_isIn 3 (some .boolean), .methodLink RX4 47 yX4_fail, .instanceMethod yX4_fail, .selects RX4 yX4_fail yX4_fail, .code yX4_fail cX4_fail 2 (some .int)] ++ wsX40)
def wsX4_length : List Cond := .code yX4_length cX4_length 2 (some .int) :: ([.fieldLink RX4 29 "TapePrinterModel" "thrown" "I", .fieldLink RX4 13 "TapePrinterModel" "longs" "[I", .methodLink RX4 129 yX4_isLine, .instanceMethod yX4_isLine, .selects RX4 yX4_isLine yX4_isLine, .initialized RX4, .code yX4_isLine cX4_isLine 2 (some .boolean), .fieldLink RX4 7 "TapePrinterModel" "lines" "I", .methodLink RX4 32 yX4_isIn, .static yX4_isIn, .code yX4_isIn cX4_isIn 3 (some .boolean), .methodLink RX4 47 yX4_fail, .instanceMethod yX4_fail, .selects RX4 yX4_fail yX4_fail, .code yX4_fail cX4_fail 2 (some .int)] ++ wsX40)
def wsX4_counted : List Cond := .code yX4_counted cX4_counted 4 (some .int) :: ([.fieldLink RX4 7 "TapePrinterModel" "lines" "I", .fieldLink RX4 13 "TapePrinterModel" "longs" "[I", .fieldLink RX4 60 "TapePrinterModel" "isFigures" "Z", .fieldLink RX4 64 "TapePrinterModel" "play" "I", .fieldLink RX4 109 "TapePrinterModel" "codes" "I", .fieldLink RX4 121 "TapePrinterModel" "reader" "I", .fieldLink RX4 93 "TapePrinterModel" "came" "I", .fieldLink RX4 100 "TapePrinterModel" "wrongly" "I", .fieldLink RX4 70 "TapePrinterModel" "lost" "I", .fieldLink RX4 67 "TapePrinterModel" "unshifts" "Z", .fieldLink RX4 82 "TapePrinterModel" "rang" "I"] ++ wsX40)
def wsX4_count : List Cond := .code yX4_count cX4_count 2 (some .int) :: ([.fieldLink RX4 29 "TapePrinterModel" "thrown" "I", .methodLink RX4 32 yX4_isIn, .static yX4_isIn, .initialized RX4, .code yX4_isIn cX4_isIn 3 (some .boolean), .methodLink RX4 132 yX4_counted, .instanceMethod yX4_counted, .selects RX4 yX4_counted yX4_counted, .code yX4_counted cX4_counted 4 (some .int), .fieldLink RX4 7 "TapePrinterModel" "lines" "I", .fieldLink RX4 13 "TapePrinterModel" "longs" "[I", .fieldLink RX4 60 "TapePrinterModel" "isFigures" "Z", .fieldLink RX4 64 "TapePrinterModel" "play" "I", .fieldLink RX4 109 "TapePrinterModel" "codes" "I", .fieldLink RX4 121 "TapePrinterModel" "reader" "I", .fieldLink RX4 93 "TapePrinterModel" "came" "I", .fieldLink RX4 100 "TapePrinterModel" "wrongly" "I", .fieldLink RX4 70 "TapePrinterModel" "lost" "I", .fieldLink RX4 67 "TapePrinterModel" "unshifts" "Z", .fieldLink RX4 82 "TapePrinterModel" "rang" "I", .methodLink RX4 47 yX4_fail, .instanceMethod yX4_fail, .selects RX4 yX4_fail yX4_fail, .code yX4_fail cX4_fail 2 (some .int)] ++ wsX40)
def wsX4_would : List Cond := .code yX4_would cX4_would 2 (some .int) :: ([.fieldLink RX4 29 "TapePrinterModel" "thrown" "I", .fieldLink RX4 93 "TapePrinterModel" "came" "I", .methodLink RX4 50 yX4_isCode, .static yX4_isCode, .initialized RX4, .code yX4_isCode cX4_isCode 1 (some .boolean), .methodLink RX4 32 yX4_isIn, .static yX4_isIn, .code yX4_isIn cX4_isIn 3 (some .boolean), .methodLink RX4 96 yX4_read, .instanceMethod yX4_read, .selects RX4 yX4_read yX4_read, .code yX4_read cX4_read 5 (some .int), .fieldLink RX4 23 "TapePrinterModel" "garbles" "[I", .fieldLink RX4 20 "TapePrinterModel" "lates" "[I", .fieldLink RX4 64 "TapePrinterModel" "play" "I", .methodLink RX4 47 yX4_fail, .instanceMethod yX4_fail, .selects RX4 yX4_fail yX4_fail, .code yX4_fail cX4_fail 2 (some .int)] ++ wsX40)
def wsX4_wrong : List Cond := .code yX4_wrong cX4_wrong 3 (some .int) :: ([.fieldLink RX4 29 "TapePrinterModel" "thrown" "I", .fieldLink RX4 121 "TapePrinterModel" "reader" "I", .fieldLink RX4 109 "TapePrinterModel" "codes" "I", .fieldLink RX4 26 "TapePrinterModel" "tape" "[I", .fieldLink RX4 93 "TapePrinterModel" "came" "I", .methodLink RX4 96 yX4_read, .instanceMethod yX4_read, .selects RX4 yX4_read yX4_read, .initialized RX4, .code yX4_read cX4_read 5 (some .int), .fieldLink RX4 23 "TapePrinterModel" "garbles" "[I", .fieldLink RX4 20 "TapePrinterModel" "lates" "[I", .fieldLink RX4 64 "TapePrinterModel" "play" "I"] ++ wsX40)
def wsX4_isShift : List Cond := .code yX4_isShift cX4_isShift 2 (some .boolean) :: ([.fieldLink RX4 67 "TapePrinterModel" "unshifts" "Z"] ++ wsX40)
def wsX4_isIdle : List Cond := .code yX4_isIdle cX4_isIdle 3 (some .boolean) :: ([.fieldLink RX4 26 "TapePrinterModel" "tape" "[I", .fieldLink RX4 109 "TapePrinterModel" "codes" "I", .methodLink RX4 115 yX4_shiftAt, .instanceMethod yX4_shiftAt, .selects RX4 yX4_shiftAt yX4_shiftAt, .initialized RX4, .code yX4_shiftAt cX4_shiftAt 4 (some .boolean), .methodLink RX4 89 yX4_shift, .instanceMethod yX4_shift, .selects RX4 yX4_shift yX4_shift, .code yX4_shift cX4_shift 3 (some .boolean), .fieldLink RX4 67 "TapePrinterModel" "unshifts" "Z", .methodLink RX4 135 yX4_isShift, .instanceMethod yX4_isShift, .selects RX4 yX4_isShift yX4_isShift, .code yX4_isShift cX4_isShift 2 (some .boolean), .methodLink RX4 36 yX4_isType, .static yX4_isType, .code yX4_isType cX4_isType 1 (some .boolean)] ++ wsX40)
def wsX4_idle : List Cond := .code yX4_idle cX4_idle 3 (some .int) :: ([.fieldLink RX4 29 "TapePrinterModel" "thrown" "I", .fieldLink RX4 109 "TapePrinterModel" "codes" "I", .fieldLink RX4 26 "TapePrinterModel" "tape" "[I", .methodLink RX4 138 yX4_isIdle, .instanceMethod yX4_isIdle, .selects RX4 yX4_isIdle yX4_isIdle, .initialized RX4, .code yX4_isIdle cX4_isIdle 3 (some .boolean), .methodLink RX4 115 yX4_shiftAt, .instanceMethod yX4_shiftAt, .selects RX4 yX4_shiftAt yX4_shiftAt, .code yX4_shiftAt cX4_shiftAt 4 (some .boolean), .methodLink RX4 89 yX4_shift, .instanceMethod yX4_shift, .selects RX4 yX4_shift yX4_shift, .code yX4_shift cX4_shift 3 (some .boolean), .fieldLink RX4 67 "TapePrinterModel" "unshifts" "Z", .methodLink RX4 135 yX4_isShift, .instanceMethod yX4_isShift, .selects RX4 yX4_isShift yX4_isShift, .code yX4_isShift cX4_isShift 2 (some .boolean), .methodLink RX4 36 yX4_isType, .static yX4_isType, .code yX4_isType cX4_isType 1 (some .boolean)] ++ wsX40)
def wsX4_prints_r1 : List Cond := [Cond.fieldLink RX4 29 "TapePrinterModel" "thrown" "I", Cond.fieldLink RX4 26 "TapePrinterModel" "tape" "[I", Cond.methodLink RX4 118 yX4_isPlace, Cond.instanceMethod yX4_isPlace, Cond.selects RX4 yX4_isPlace yX4_isPlace, Cond.initialized RX4, Cond.code yX4_isPlace cX4_isPlace 2 (some .boolean), Cond.fieldLink RX4 109 "TapePrinterModel" "codes" "I", Cond.methodLink RX4 32 yX4_isIn, Cond.static yX4_isIn, Cond.code yX4_isIn cX4_isIn 3 (some .boolean), Cond.methodLink RX4 115 yX4_shiftAt, Cond.instanceMethod yX4_shiftAt, Cond.selects RX4 yX4_shiftAt yX4_shiftAt, Cond.code yX4_shiftAt cX4_shiftAt 4 (some .boolean), Cond.methodLink RX4 89 yX4_shift, Cond.instanceMethod yX4_shift, Cond.selects RX4 yX4_shift yX4_shift, Cond.code yX4_shift cX4_shift 3 (some .boolean), Cond.fieldLink RX4 67 "TapePrinterModel" "unshifts" "Z", Cond.methodLink RX4 53 yX4_characterOf, Cond.static yX4_characterOf, Cond.code yX4_characterOf cX4_characterOf 4 (some .int), Cond.methodLink RX4 36 yX4_isType]
def wsX4_prints_r2 : List Cond := [Cond.static yX4_isType, Cond.code yX4_isType cX4_isType 1 (some .boolean), Cond.methodLink RX4 47 yX4_fail, Cond.instanceMethod yX4_fail, Cond.selects RX4 yX4_fail yX4_fail, Cond.code yX4_fail cX4_fail 2 (some .int)]
def wsX4_prints : List Cond := .code yX4_prints cX4_prints 2 (some .int) :: ((wsX4_prints_r1 ++ wsX4_prints_r2) ++ wsX40)
def wsX4_mean : List Cond := .code yX4_mean cX4_mean 1 (some .double) :: ([.fieldLink RX4 29 "TapePrinterModel" "thrown" "I", .fieldLink RX4 7 "TapePrinterModel" "lines" "I", .methodLink RX4 132 yX4_counted, .instanceMethod yX4_counted, .selects RX4 yX4_counted yX4_counted, .initialized RX4, .code yX4_counted cX4_counted 4 (some .int), .fieldLink RX4 13 "TapePrinterModel" "longs" "[I", .fieldLink RX4 60 "TapePrinterModel" "isFigures" "Z", .fieldLink RX4 64 "TapePrinterModel" "play" "I", .fieldLink RX4 109 "TapePrinterModel" "codes" "I", .fieldLink RX4 121 "TapePrinterModel" "reader" "I", .fieldLink RX4 93 "TapePrinterModel" "came" "I", .fieldLink RX4 100 "TapePrinterModel" "wrongly" "I", .fieldLink RX4 70 "TapePrinterModel" "lost" "I", .fieldLink RX4 67 "TapePrinterModel" "unshifts" "Z", .fieldLink RX4 82 "TapePrinterModel" "rang" "I"] ++ wsX40)
def wsX4_digest : List Cond := .code yX4_digest cX4_digest 5 (some .long) :: ([.fieldLink RX4 29 "TapePrinterModel" "thrown" "I", .constantLong RX4 141 (1373), .constantLong RX4 143 (31), .fieldLink RX4 20 "TapePrinterModel" "lates" "[I", .fieldLink RX4 23 "TapePrinterModel" "garbles" "[I", .fieldLink RX4 7 "TapePrinterModel" "lines" "I", .fieldLink RX4 13 "TapePrinterModel" "longs" "[I", .fieldLink RX4 17 "TapePrinterModel" "page" "[I", .fieldLink RX4 109 "TapePrinterModel" "codes" "I", .fieldLink RX4 26 "TapePrinterModel" "tape" "[I", .methodLink RX4 132 yX4_counted, .instanceMethod yX4_counted, .selects RX4 yX4_counted yX4_counted, .initialized RX4, .code yX4_counted cX4_counted 4 (some .int), .fieldLink RX4 60 "TapePrinterModel" "isFigures" "Z", .fieldLink RX4 64 "TapePrinterModel" "play" "I", .fieldLink RX4 121 "TapePrinterModel" "reader" "I", .fieldLink RX4 93 "TapePrinterModel" "came" "I", .fieldLink RX4 100 "TapePrinterModel" "wrongly" "I", .fieldLink RX4 70 "TapePrinterModel" "lost" "I", .fieldLink RX4 67 "TapePrinterModel" "unshifts" "Z", .fieldLink RX4 82 "TapePrinterModel" "rang" "I"] ++ wsX40)
def wsJ9_min_7cf53 : List Cond := .code yJ9_min_7cf53 cJ9_min_7cf53 2 (some .int) :: ([])
def wsL_code : List Cond := .codeWith yL_code cL_code 4 (some .int) [(0, 9, 12, 13)] :: ([.classLink RL 13 "java/lang/IndexOutOfBoundsException", .methodLink RL 7 yX3_code, .instanceMethod yX3_code, .selects RX3 yX3_code yX3_code, .initialized RX3, .code yX3_code cX3_code 2 (some .int), .classLink RX3 36 "java/lang/IndexOutOfBoundsException", .initialized "java/lang/IndexOutOfBoundsException", .methodLink RX3 32 yX3_isCharacter, .static yX3_isCharacter, .code yX3_isCharacter cX3_isCharacter 1 (some .boolean), .methodLink RX3 43 yX3_codeOf, .static yX3_codeOf, .code yX3_codeOf cX3_codeOf 1 (some .int), .fieldLink RX3 207 "TapePrinter" "CODES" "[I"] ++ (vx_atS RX3 40 "java/lang/IndexOutOfBoundsException" ["java/lang/RuntimeException", "java/lang/Exception"]).filter goodWord)
def wsL_character : List Cond := .codeWith yL_character cL_character 5 (some .int) [(0, 10, 13, 13)] :: ([.classLink RL 13 "java/lang/IndexOutOfBoundsException", .methodLink RL 15 yX3_character, .instanceMethod yX3_character, .selects RX3 yX3_character yX3_character, .initialized RX3, .code yX3_character cX3_character 3 (some .int), .classLink RX3 36 "java/lang/IndexOutOfBoundsException", .initialized "java/lang/IndexOutOfBoundsException", .methodLink RX3 47 yX3_isCode, .static yX3_isCode, .code yX3_isCode cX3_isCode 1 (some .boolean), .methodLink RX3 52 yX3_characterOf, .static yX3_characterOf, .code yX3_characterOf cX3_characterOf 3 (some .int), .methodLink RX3 211 yX3_characterInLetters, .static yX3_characterInLetters, .code yX3_characterInLetters cX3_characterInLetters 1 (some .int), .fieldLink RX3 214 "TapePrinter" "CHARACTERS" "[I", .methodLink RX3 113 yX3_dependsOnShift, .static yX3_dependsOnShift, .code yX3_dependsOnShift cX3_dependsOnShift 2 (some .boolean)] ++ (vx_atS RX3 40 "java/lang/IndexOutOfBoundsException" ["java/lang/RuntimeException", "java/lang/Exception"]).filter goodWord)
def wsL_apart : List Cond := .codeWith yL_apart cL_apart 5 (some .int) [(0, 10, 13, 13)] :: ([.classLink RL 13 "java/lang/IndexOutOfBoundsException", .methodLink RL 19 yX3_apart, .instanceMethod yX3_apart, .selects RX3 yX3_apart yX3_apart, .initialized RX3, .code yX3_apart cX3_apart 3 (some .int), .classLink RX3 36 "java/lang/IndexOutOfBoundsException", .initialized "java/lang/IndexOutOfBoundsException", .methodLink RX3 32 yX3_isCharacter, .static yX3_isCharacter, .code yX3_isCharacter cX3_isCharacter 1 (some .boolean), .methodLink RX3 43 yX3_codeOf, .static yX3_codeOf, .code yX3_codeOf cX3_codeOf 1 (some .int), .fieldLink RX3 207 "TapePrinter" "CODES" "[I", .methodLink RX3 56 yJ6_bitCount_0f7a4, .static yJ6_bitCount_0f7a4, .initialized RJ6, .code yJ6_bitCount_0f7a4 cJ6_bitCount_0f7a4 1 (some .int), .constant RJ6 265 (1431655765), .constant RJ6 266 (858993459), .constant RJ6 267 (252645135)] ++ (vx_atS RX3 40 "java/lang/IndexOutOfBoundsException" ["java/lang/RuntimeException", "java/lang/Exception"]).filter goodWord)
def wsL_doubts : List Cond := .codeWith yL_doubts cL_doubts 4 (some .int) [(0, 9, 12, 13)] :: ([.classLink RL 13 "java/lang/IndexOutOfBoundsException", .methodLink RL 23 yX3_doubts, .instanceMethod yX3_doubts, .selects RX3 yX3_doubts yX3_doubts, .initialized RX3, .code yX3_doubts cX3_doubts 5 (some .int), .classLink RX3 36 "java/lang/IndexOutOfBoundsException", .initialized "java/lang/IndexOutOfBoundsException", .fieldLink RX3 61 "TapePrinter" "figures" "Z", .methodLink RX3 47 yX3_isCode, .static yX3_isCode, .code yX3_isCode cX3_isCode 1 (some .boolean), .methodLink RX3 52 yX3_characterOf, .static yX3_characterOf, .code yX3_characterOf cX3_characterOf 3 (some .int), .methodLink RX3 211 yX3_characterInLetters, .static yX3_characterInLetters, .code yX3_characterInLetters cX3_characterInLetters 1 (some .int), .fieldLink RX3 214 "TapePrinter" "CHARACTERS" "[I", .methodLink RX3 113 yX3_dependsOnShift, .static yX3_dependsOnShift, .code yX3_dependsOnShift cX3_dependsOnShift 2 (some .boolean)] ++ wsX30 ++ (vx_atS RX3 40 "java/lang/IndexOutOfBoundsException" ["java/lang/RuntimeException", "java/lang/Exception"]).filter goodWord)
def wsL_setLine_r1 : List Cond := [Cond.classLink RL 13 "java/lang/IndexOutOfBoundsException", Cond.classLink RL 30 "java/lang/IllegalArgumentException", Cond.methodLink RL 26 yX3_setLine, Cond.instanceMethod yX3_setLine, Cond.selects RX3 yX3_setLine yX3_setLine, Cond.initialized RX3, Cond.code yX3_setLine cX3_setLine 5 (some .int), Cond.classLink RX3 36 "java/lang/IndexOutOfBoundsException", Cond.initialized "java/lang/IndexOutOfBoundsException", Cond.classLink RX3 67 "java/lang/IllegalArgumentException", Cond.initialized "java/lang/IllegalArgumentException", Cond.fieldLink RX3 10 "TapePrinter" "wire" "LTapePrinter$Wire;", Cond.methodLink RX3 47 yX3_isCode, Cond.static yX3_isCode, Cond.code yX3_isCode cX3_isCode 1 (some .boolean), Cond.methodLink RX3 74 yX2_lateAt, Cond.instanceMethod yX2_lateAt, Cond.selects RX2 yX2_lateAt yX2_lateAt, Cond.initialized RX2, Cond.code yX2_lateAt cX2_lateAt 2 (some .int), Cond.fieldLink RX2 14 "TapePrinter$Wire" "late" "LTapePrinter$Row;", Cond.methodLink RX2 31 yX0_at, Cond.instanceMethod yX0_at, Cond.selects RX0 yX0_at yX0_at]
def wsL_setLine_r2 : List Cond := [Cond.initialized RX0, Cond.code yX0_at cX0_at 2 (some .int), Cond.fieldLink RX0 7 "TapePrinter$Row" "values" "[I", Cond.methodLink RX0 17 yX0_has, Cond.instanceMethod yX0_has, Cond.selects RX0 yX0_has yX0_has, Cond.code yX0_has cX0_has 2 (some .boolean), Cond.fieldLink RX0 13 "TapePrinter$Row" "size" "I", Cond.methodLink RX3 77 yX2_change, Cond.instanceMethod yX2_change, Cond.selects RX2 yX2_change yX2_change, Cond.code yX2_change cX2_change 4 none, Cond.fieldLink RX2 20 "TapePrinter$Wire" "garbled" "LTapePrinter$Row;", Cond.methodLink RX2 35 yX0_change, Cond.instanceMethod yX0_change, Cond.selects RX0 yX0_change yX0_change, Cond.code yX0_change cX0_change 3 none]
def wsL_setLine : List Cond := .codeWith yL_setLine cL_setLine 6 (some .int) [(0, 12, 15, 13), (0, 12, 19, 30)] :: ((wsL_setLine_r1 ++ wsL_setLine_r2) ++ wsX30 ++ wsX20 ++ wsX00 ++ (vx_atS RX3 40 "java/lang/IndexOutOfBoundsException" ["java/lang/RuntimeException", "java/lang/Exception"]).filter goodWord ++ (vx_atS RX3 71 "java/lang/IllegalArgumentException" ["java/lang/RuntimeException", "java/lang/Exception"]).filter goodWord)
def wsL_setPlay : List Cond := .codeWith yL_setPlay cL_setPlay 4 (some .int) [(0, 9, 12, 30)] :: ([.classLink RL 30 "java/lang/IllegalArgumentException", .methodLink RL 32 yX3_setPlay, .instanceMethod yX3_setPlay, .selects RX3 yX3_setPlay yX3_setPlay, .initialized RX3, .code yX3_setPlay cX3_setPlay 3 (some .int), .classLink RX3 67 "java/lang/IllegalArgumentException", .initialized "java/lang/IllegalArgumentException", .fieldLink RX3 10 "TapePrinter" "wire" "LTapePrinter$Wire;", .methodLink RX3 83 yX2_play, .instanceMethod yX2_play, .selects RX2 yX2_play yX2_play, .initialized RX2, .code yX2_play cX2_play 1 (some .int), .fieldLink RX2 27 "TapePrinter$Wire" "play" "I", .methodLink RX3 87 yX2_changePlay, .instanceMethod yX2_changePlay, .selects RX2 yX2_changePlay yX2_changePlay, .code yX2_changePlay cX2_changePlay 2 none] ++ wsX30 ++ wsX20 ++ (vx_atS RX3 71 "java/lang/IllegalArgumentException" ["java/lang/RuntimeException", "java/lang/Exception"]).filter goodWord)
def wsL_receive_r1 : List Cond := [Cond.classLink RL 13 "java/lang/IndexOutOfBoundsException", Cond.methodLink RL 35 yX3_receive, Cond.instanceMethod yX3_receive, Cond.selects RX3 yX3_receive yX3_receive, Cond.initialized RX3, Cond.code yX3_receive cX3_receive 2 (some .int), Cond.classLink RX3 36 "java/lang/IndexOutOfBoundsException", Cond.initialized "java/lang/IndexOutOfBoundsException", Cond.methodLink RX3 47 yX3_isCode, Cond.static yX3_isCode, Cond.code yX3_isCode cX3_isCode 1 (some .boolean), Cond.methodLink RX3 93 yX3_takeIn, Cond.instanceMethod yX3_takeIn, Cond.selects RX3 yX3_takeIn yX3_takeIn, Cond.code yX3_takeIn cX3_takeIn 3 (some .int), Cond.fieldLink RX3 10 "TapePrinter" "wire" "LTapePrinter$Wire;", Cond.fieldLink RX3 158 "TapePrinter" "came" "I", Cond.fieldLink RX3 198 "TapePrinter" "misread" "I", Cond.methodLink RX3 161 yX2_readAs, Cond.instanceMethod yX2_readAs, Cond.selects RX2 yX2_readAs yX2_readAs, Cond.initialized RX2, Cond.code yX2_readAs cX2_readAs 6 (some .int), Cond.fieldLink RX2 20 "TapePrinter$Wire" "garbled" "LTapePrinter$Row;"]
def wsL_receive_r2 : List Cond := [Cond.fieldLink RX2 14 "TapePrinter$Wire" "late" "LTapePrinter$Row;", Cond.fieldLink RX2 27 "TapePrinter$Wire" "play" "I", Cond.methodLink RX2 31 yX0_at, Cond.instanceMethod yX0_at, Cond.selects RX0 yX0_at yX0_at, Cond.initialized RX0, Cond.code yX0_at cX0_at 2 (some .int), Cond.fieldLink RX0 7 "TapePrinter$Row" "values" "[I", Cond.methodLink RX0 17 yX0_has, Cond.instanceMethod yX0_has, Cond.selects RX0 yX0_has yX0_has, Cond.code yX0_has cX0_has 2 (some .boolean), Cond.fieldLink RX0 13 "TapePrinter$Row" "size" "I", Cond.methodLink RX3 220 yX3_obey, Cond.instanceMethod yX3_obey, Cond.selects RX3 yX3_obey yX3_obey, Cond.code yX3_obey cX3_obey 3 none, Cond.fieldLink RX3 61 "TapePrinter" "figures" "Z", Cond.fieldLink RX3 19 "TapePrinter" "sheet" "LTapePrinter$Sheet;", Cond.fieldLink RX3 201 "TapePrinter" "lost" "I", Cond.fieldLink RX3 204 "TapePrinter" "bells" "I", Cond.methodLink RX3 52 yX3_characterOf, Cond.static yX3_characterOf, Cond.code yX3_characterOf cX3_characterOf 3 (some .int)]
def wsL_receive_r3 : List Cond := [Cond.methodLink RX3 211 yX3_characterInLetters, Cond.static yX3_characterInLetters, Cond.code yX3_characterInLetters cX3_characterInLetters 1 (some .int), Cond.fieldLink RX3 214 "TapePrinter" "CHARACTERS" "[I", Cond.methodLink RX3 113 yX3_dependsOnShift, Cond.static yX3_dependsOnShift, Cond.code yX3_dependsOnShift cX3_dependsOnShift 2 (some .boolean), Cond.methodLink RX3 223 yX1_beginLine, Cond.instanceMethod yX1_beginLine, Cond.selects RX1 yX1_beginLine yX1_beginLine, Cond.initialized RX1, Cond.code yX1_beginLine cX1_beginLine 2 none, Cond.fieldLink RX1 17 "TapePrinter$Sheet" "used" "I", Cond.fieldLink RX1 24 "TapePrinter$Sheet" "first" "I", Cond.methodLink RX1 27 yX1_row, Cond.instanceMethod yX1_row, Cond.selects RX1 yX1_row yX1_row, Cond.code yX1_row cX1_row 3 (some (.object "TapePrinter$Row")), Cond.fieldLink RX1 11 "TapePrinter$Sheet" "rows" "[LTapePrinter$Row;", Cond.methodLink RX1 35 yX0_clear, Cond.instanceMethod yX0_clear, Cond.selects RX0 yX0_clear yX0_clear, Cond.code yX0_clear cX0_clear 1 none, Cond.methodLink RX3 226 yX1_add]
def wsL_receive_r4 : List Cond := [Cond.instanceMethod yX1_add, Cond.selects RX1 yX1_add yX1_add, Cond.code yX1_add cX1_add 3 (some .boolean), Cond.methodLink RX1 31 yX0_add, Cond.instanceMethod yX0_add, Cond.selects RX0 yX0_add yX0_add, Cond.code yX0_add cX0_add 2 (some .boolean), Cond.methodLink RX3 164 yX3_figuresBehind, Cond.instanceMethod yX3_figuresBehind, Cond.selects RX3 yX3_figuresBehind yX3_figuresBehind, Cond.code yX3_figuresBehind cX3_figuresBehind 3 (some .boolean), Cond.methodLink RX3 217 yX3_shiftsToLetters, Cond.instanceMethod yX3_shiftsToLetters, Cond.selects RX3 yX3_shiftsToLetters yX3_shiftsToLetters, Cond.code yX3_shiftsToLetters cX3_shiftsToLetters 2 (some .boolean), Cond.fieldLink RX3 90 "TapePrinter" "unshifts" "Z"]
def wsL_receive : List Cond := .codeWith yL_receive cL_receive 4 (some .int) [(0, 9, 12, 13)] :: ((wsL_receive_r1 ++ (wsL_receive_r2 ++ (wsL_receive_r3 ++ wsL_receive_r4))) ++ wsX30 ++ wsX20 ++ wsX00 ++ wsX10 ++ (vx_atS RX3 40 "java/lang/IndexOutOfBoundsException" ["java/lang/RuntimeException", "java/lang/Exception"]).filter goodWord)
def wsL_punch_r1 : List Cond := [Cond.classLink RL 13 "java/lang/IndexOutOfBoundsException", Cond.classLink RL 41 "java/lang/IllegalStateException", Cond.methodLink RL 38 yX3_punch, Cond.instanceMethod yX3_punch, Cond.selects RX3 yX3_punch yX3_punch, Cond.initialized RX3, Cond.code yX3_punch cX3_punch 2 (some .int), Cond.classLink RX3 36 "java/lang/IndexOutOfBoundsException", Cond.initialized "java/lang/IndexOutOfBoundsException", Cond.classLink RX3 99 "java/lang/IllegalStateException", Cond.initialized "java/lang/IllegalStateException", Cond.fieldLink RX3 28 "TapePrinter" "strip" "LTapePrinter$Row;", Cond.methodLink RX3 47 yX3_isCode, Cond.static yX3_isCode, Cond.code yX3_isCode cX3_isCode 1 (some .boolean), Cond.methodLink RX3 96 yX0_room, Cond.instanceMethod yX0_room, Cond.selects RX0 yX0_room yX0_room, Cond.initialized RX0, Cond.code yX0_room cX0_room 1 (some .int), Cond.fieldLink RX0 7 "TapePrinter$Row" "values" "[I", Cond.fieldLink RX0 13 "TapePrinter$Row" "size" "I", Cond.methodLink RX3 104 yX0_add, Cond.instanceMethod yX0_add]
def wsL_punch_r2 : List Cond := [Cond.selects RX0 yX0_add yX0_add, Cond.code yX0_add cX0_add 2 (some .boolean), Cond.methodLink RX3 107 yX0_size, Cond.instanceMethod yX0_size, Cond.selects RX0 yX0_size yX0_size, Cond.code yX0_size cX0_size 1 (some .int)]
def wsL_punch : List Cond := .codeWith yL_punch cL_punch 4 (some .int) [(0, 9, 12, 13), (0, 9, 15, 41)] :: ((wsL_punch_r1 ++ wsL_punch_r2) ++ wsX30 ++ wsX00 ++ (vx_atS RX3 40 "java/lang/IndexOutOfBoundsException" ["java/lang/RuntimeException", "java/lang/Exception"]).filter goodWord ++ (vx_atS RX3 103 "java/lang/IllegalStateException" ["java/lang/RuntimeException", "java/lang/Exception"]).filter goodWord)
def wsL_type_r1 : List Cond := [Cond.classLink RL 13 "java/lang/IndexOutOfBoundsException", Cond.classLink RL 41 "java/lang/IllegalStateException", Cond.methodLink RL 43 yX3_type, Cond.instanceMethod yX3_type, Cond.selects RX3 yX3_type yX3_type, Cond.initialized RX3, Cond.code yX3_type cX3_type 5 (some .int), Cond.classLink RX3 36 "java/lang/IndexOutOfBoundsException", Cond.initialized "java/lang/IndexOutOfBoundsException", Cond.classLink RX3 99 "java/lang/IllegalStateException", Cond.initialized "java/lang/IllegalStateException", Cond.fieldLink RX3 28 "TapePrinter" "strip" "LTapePrinter$Row;", Cond.methodLink RX3 32 yX3_isCharacter, Cond.static yX3_isCharacter, Cond.code yX3_isCharacter cX3_isCharacter 1 (some .boolean), Cond.methodLink RX3 110 yX3_isFigure, Cond.static yX3_isFigure, Cond.code yX3_isFigure cX3_isFigure 1 (some .boolean), Cond.methodLink RX3 43 yX3_codeOf, Cond.static yX3_codeOf, Cond.code yX3_codeOf cX3_codeOf 1 (some .int), Cond.fieldLink RX3 207 "TapePrinter" "CODES" "[I", Cond.methodLink RX3 113 yX3_dependsOnShift, Cond.static yX3_dependsOnShift]
def wsL_type_r2 : List Cond := [Cond.code yX3_dependsOnShift cX3_dependsOnShift 2 (some .boolean), Cond.methodLink RX3 211 yX3_characterInLetters, Cond.static yX3_characterInLetters, Cond.code yX3_characterInLetters cX3_characterInLetters 1 (some .int), Cond.fieldLink RX3 214 "TapePrinter" "CHARACTERS" "[I", Cond.methodLink RX3 116 yX3_figuresAtEnd, Cond.instanceMethod yX3_figuresAtEnd, Cond.selects RX3 yX3_figuresAtEnd yX3_figuresAtEnd, Cond.code yX3_figuresAtEnd cX3_figuresAtEnd 1 (some .boolean), Cond.methodLink RX3 107 yX0_size, Cond.instanceMethod yX0_size, Cond.selects RX0 yX0_size yX0_size, Cond.initialized RX0, Cond.code yX0_size cX0_size 1 (some .int), Cond.fieldLink RX0 13 "TapePrinter$Row" "size" "I", Cond.methodLink RX3 174 yX3_figuresAhead, Cond.instanceMethod yX3_figuresAhead, Cond.selects RX3 yX3_figuresAhead yX3_figuresAhead, Cond.code yX3_figuresAhead cX3_figuresAhead 4 (some .boolean), Cond.methodLink RX3 127 yX0_at, Cond.instanceMethod yX0_at, Cond.selects RX0 yX0_at yX0_at, Cond.code yX0_at cX0_at 2 (some .int), Cond.fieldLink RX0 7 "TapePrinter$Row" "values" "[I"]
def wsL_type_r3 : List Cond := [Cond.methodLink RX0 17 yX0_has, Cond.instanceMethod yX0_has, Cond.selects RX0 yX0_has yX0_has, Cond.code yX0_has cX0_has 2 (some .boolean), Cond.methodLink RX3 164 yX3_figuresBehind, Cond.instanceMethod yX3_figuresBehind, Cond.selects RX3 yX3_figuresBehind yX3_figuresBehind, Cond.code yX3_figuresBehind cX3_figuresBehind 3 (some .boolean), Cond.methodLink RX3 217 yX3_shiftsToLetters, Cond.instanceMethod yX3_shiftsToLetters, Cond.selects RX3 yX3_shiftsToLetters yX3_shiftsToLetters, Cond.code yX3_shiftsToLetters cX3_shiftsToLetters 2 (some .boolean), Cond.fieldLink RX3 90 "TapePrinter" "unshifts" "Z", Cond.methodLink RX3 96 yX0_room, Cond.instanceMethod yX0_room, Cond.selects RX0 yX0_room yX0_room, Cond.code yX0_room cX0_room 1 (some .int), Cond.methodLink RX3 104 yX0_add, Cond.instanceMethod yX0_add, Cond.selects RX0 yX0_add yX0_add, Cond.code yX0_add cX0_add 2 (some .boolean)]
def wsL_type : List Cond := .codeWith yL_type cL_type 4 (some .int) [(0, 9, 12, 13), (0, 9, 15, 41)] :: ((wsL_type_r1 ++ (wsL_type_r2 ++ wsL_type_r3)) ++ wsX30 ++ wsX00 ++ (vx_atS RX3 40 "java/lang/IndexOutOfBoundsException" ["java/lang/RuntimeException", "java/lang/Exception"]).filter goodWord ++ (vx_atS RX3 103 "java/lang/IllegalStateException" ["java/lang/RuntimeException", "java/lang/Exception"]).filter goodWord)
def wsL_rub_r1 : List Cond := [Cond.classLink RL 13 "java/lang/IndexOutOfBoundsException", Cond.methodLink RL 46 yX3_rub, Cond.instanceMethod yX3_rub, Cond.selects RX3 yX3_rub yX3_rub, Cond.initialized RX3, Cond.code yX3_rub cX3_rub 3 (some .int), Cond.classLink RX3 36 "java/lang/IndexOutOfBoundsException", Cond.initialized "java/lang/IndexOutOfBoundsException", Cond.fieldLink RX3 28 "TapePrinter" "strip" "LTapePrinter$Row;", Cond.methodLink RX3 122 yX0_has, Cond.instanceMethod yX0_has, Cond.selects RX0 yX0_has yX0_has, Cond.initialized RX0, Cond.code yX0_has cX0_has 2 (some .boolean), Cond.fieldLink RX0 13 "TapePrinter$Row" "size" "I", Cond.fieldLink RX0 7 "TapePrinter$Row" "values" "[I", Cond.methodLink RX3 127 yX0_at, Cond.instanceMethod yX0_at, Cond.selects RX0 yX0_at yX0_at, Cond.code yX0_at cX0_at 2 (some .int), Cond.methodLink RX0 17 yX0_has, Cond.methodLink RX3 130 yX0_change, Cond.instanceMethod yX0_change, Cond.selects RX0 yX0_change yX0_change]
def wsL_rub_r2 : List Cond := [Cond.code yX0_change cX0_change 3 none]
def wsL_rub : List Cond := .codeWith yL_rub cL_rub 4 (some .int) [(0, 9, 12, 13)] :: ((wsL_rub_r1 ++ wsL_rub_r2) ++ wsX30 ++ wsX00 ++ (vx_atS RX3 40 "java/lang/IndexOutOfBoundsException" ["java/lang/RuntimeException", "java/lang/Exception"]).filter goodWord)
def wsL_run_r1 : List Cond := [Cond.classLink RL 30 "java/lang/IllegalArgumentException", Cond.methodLink RL 49 yX3_run, Cond.instanceMethod yX3_run, Cond.selects RX3 yX3_run yX3_run, Cond.initialized RX3, Cond.code yX3_run cX3_run 4 (some .int), Cond.classLink RX3 67 "java/lang/IllegalArgumentException", Cond.initialized "java/lang/IllegalArgumentException", Cond.fieldLink RX3 28 "TapePrinter" "strip" "LTapePrinter$Row;", Cond.fieldLink RX3 135 "TapePrinter" "reader" "I", Cond.methodLink RX3 139 Lib.Math.min.name, Cond.static Lib.Math.min.name, Cond.initialized "java/lang/Math", Cond.code Lib.Math.min.name Lib.Math.min.code 2 (some .int), Cond.methodLink RX3 107 yX0_size, Cond.instanceMethod yX0_size, Cond.selects RX0 yX0_size yX0_size, Cond.initialized RX0, Cond.code yX0_size cX0_size 1 (some .int), Cond.fieldLink RX0 13 "TapePrinter$Row" "size" "I", Cond.methodLink RX3 127 yX0_at, Cond.instanceMethod yX0_at, Cond.selects RX0 yX0_at yX0_at, Cond.code yX0_at cX0_at 2 (some .int)]
def wsL_run_r2 : List Cond := [Cond.fieldLink RX0 7 "TapePrinter$Row" "values" "[I", Cond.methodLink RX0 17 yX0_has, Cond.instanceMethod yX0_has, Cond.selects RX0 yX0_has yX0_has, Cond.code yX0_has cX0_has 2 (some .boolean), Cond.methodLink RX3 93 yX3_takeIn, Cond.instanceMethod yX3_takeIn, Cond.selects RX3 yX3_takeIn yX3_takeIn, Cond.code yX3_takeIn cX3_takeIn 3 (some .int), Cond.fieldLink RX3 10 "TapePrinter" "wire" "LTapePrinter$Wire;", Cond.fieldLink RX3 158 "TapePrinter" "came" "I", Cond.fieldLink RX3 198 "TapePrinter" "misread" "I", Cond.methodLink RX3 161 yX2_readAs, Cond.instanceMethod yX2_readAs, Cond.selects RX2 yX2_readAs yX2_readAs, Cond.initialized RX2, Cond.code yX2_readAs cX2_readAs 6 (some .int), Cond.fieldLink RX2 20 "TapePrinter$Wire" "garbled" "LTapePrinter$Row;", Cond.fieldLink RX2 14 "TapePrinter$Wire" "late" "LTapePrinter$Row;", Cond.fieldLink RX2 27 "TapePrinter$Wire" "play" "I", Cond.methodLink RX2 31 yX0_at, Cond.methodLink RX3 220 yX3_obey, Cond.instanceMethod yX3_obey, Cond.selects RX3 yX3_obey yX3_obey]
def wsL_run_r3 : List Cond := [Cond.code yX3_obey cX3_obey 3 none, Cond.fieldLink RX3 61 "TapePrinter" "figures" "Z", Cond.fieldLink RX3 19 "TapePrinter" "sheet" "LTapePrinter$Sheet;", Cond.fieldLink RX3 201 "TapePrinter" "lost" "I", Cond.fieldLink RX3 204 "TapePrinter" "bells" "I", Cond.methodLink RX3 52 yX3_characterOf, Cond.static yX3_characterOf, Cond.code yX3_characterOf cX3_characterOf 3 (some .int), Cond.methodLink RX3 211 yX3_characterInLetters, Cond.static yX3_characterInLetters, Cond.code yX3_characterInLetters cX3_characterInLetters 1 (some .int), Cond.fieldLink RX3 214 "TapePrinter" "CHARACTERS" "[I", Cond.methodLink RX3 113 yX3_dependsOnShift, Cond.static yX3_dependsOnShift, Cond.code yX3_dependsOnShift cX3_dependsOnShift 2 (some .boolean), Cond.methodLink RX3 223 yX1_beginLine, Cond.instanceMethod yX1_beginLine, Cond.selects RX1 yX1_beginLine yX1_beginLine, Cond.initialized RX1, Cond.code yX1_beginLine cX1_beginLine 2 none, Cond.fieldLink RX1 17 "TapePrinter$Sheet" "used" "I", Cond.fieldLink RX1 24 "TapePrinter$Sheet" "first" "I", Cond.methodLink RX1 27 yX1_row, Cond.instanceMethod yX1_row]
def wsL_run_r4 : List Cond := [Cond.selects RX1 yX1_row yX1_row, Cond.code yX1_row cX1_row 3 (some (.object "TapePrinter$Row")), Cond.fieldLink RX1 11 "TapePrinter$Sheet" "rows" "[LTapePrinter$Row;", Cond.methodLink RX1 35 yX0_clear, Cond.instanceMethod yX0_clear, Cond.selects RX0 yX0_clear yX0_clear, Cond.code yX0_clear cX0_clear 1 none, Cond.methodLink RX3 226 yX1_add, Cond.instanceMethod yX1_add, Cond.selects RX1 yX1_add yX1_add, Cond.code yX1_add cX1_add 3 (some .boolean), Cond.methodLink RX1 31 yX0_add, Cond.instanceMethod yX0_add, Cond.selects RX0 yX0_add yX0_add, Cond.code yX0_add cX0_add 2 (some .boolean), Cond.methodLink RX3 164 yX3_figuresBehind, Cond.instanceMethod yX3_figuresBehind, Cond.selects RX3 yX3_figuresBehind yX3_figuresBehind, Cond.code yX3_figuresBehind cX3_figuresBehind 3 (some .boolean), Cond.methodLink RX3 217 yX3_shiftsToLetters, Cond.instanceMethod yX3_shiftsToLetters, Cond.selects RX3 yX3_shiftsToLetters yX3_shiftsToLetters, Cond.code yX3_shiftsToLetters cX3_shiftsToLetters 2 (some .boolean), Cond.fieldLink RX3 90 "TapePrinter" "unshifts" "Z"]
def wsL_run : List Cond := .codeWith yL_run cL_run 4 (some .int) [(0, 9, 12, 30)] :: ((wsL_run_r1 ++ (wsL_run_r2 ++ (wsL_run_r3 ++ wsL_run_r4))) ++ wsX30 ++ wsX00 ++ wsX20 ++ wsX10 ++ (vx_atS RX3 71 "java/lang/IllegalArgumentException" ["java/lang/RuntimeException", "java/lang/Exception"]).filter goodWord)
def wsL_wind : List Cond := .codeWith yL_wind cL_wind 4 (some .int) [(0, 9, 12, 13)] :: ([.classLink RL 13 "java/lang/IndexOutOfBoundsException", .methodLink RL 52 yX3_wind, .instanceMethod yX3_wind, .selects RX3 yX3_wind yX3_wind, .initialized RX3, .code yX3_wind cX3_wind 3 (some .int), .classLink RX3 36 "java/lang/IndexOutOfBoundsException", .initialized "java/lang/IndexOutOfBoundsException", .fieldLink RX3 28 "TapePrinter" "strip" "LTapePrinter$Row;", .fieldLink RX3 135 "TapePrinter" "reader" "I", .methodLink RX3 107 yX0_size, .instanceMethod yX0_size, .selects RX0 yX0_size yX0_size, .initialized RX0, .code yX0_size cX0_size 1 (some .int), .fieldLink RX0 13 "TapePrinter$Row" "size" "I"] ++ wsX30 ++ wsX00 ++ (vx_atS RX3 40 "java/lang/IndexOutOfBoundsException" ["java/lang/RuntimeException", "java/lang/Exception"]).filter goodWord)
def wsL_tape : List Cond := .codeWith yL_tape cL_tape 4 (some .int) [(0, 9, 12, 13)] :: ([.classLink RL 13 "java/lang/IndexOutOfBoundsException", .methodLink RL 55 yX3_tape, .instanceMethod yX3_tape, .selects RX3 yX3_tape yX3_tape, .initialized RX3, .code yX3_tape cX3_tape 2 (some .int), .classLink RX3 36 "java/lang/IndexOutOfBoundsException", .initialized "java/lang/IndexOutOfBoundsException", .fieldLink RX3 28 "TapePrinter" "strip" "LTapePrinter$Row;", .methodLink RX3 122 yX0_has, .instanceMethod yX0_has, .selects RX0 yX0_has yX0_has, .initialized RX0, .code yX0_has cX0_has 2 (some .boolean), .fieldLink RX0 13 "TapePrinter$Row" "size" "I", .fieldLink RX0 7 "TapePrinter$Row" "values" "[I", .methodLink RX3 127 yX0_at, .instanceMethod yX0_at, .selects RX0 yX0_at yX0_at, .code yX0_at cX0_at 2 (some .int), .methodLink RX0 17 yX0_has] ++ wsX30 ++ wsX00 ++ (vx_atS RX3 40 "java/lang/IndexOutOfBoundsException" ["java/lang/RuntimeException", "java/lang/Exception"]).filter goodWord)
def wsL_page_r1 : List Cond := [Cond.classLink RL 13 "java/lang/IndexOutOfBoundsException", Cond.methodLink RL 58 yX3_page, Cond.instanceMethod yX3_page, Cond.selects RX3 yX3_page yX3_page, Cond.initialized RX3, Cond.code yX3_page cX3_page 4 (some .int), Cond.classLink RX3 36 "java/lang/IndexOutOfBoundsException", Cond.initialized "java/lang/IndexOutOfBoundsException", Cond.fieldLink RX3 19 "TapePrinter" "sheet" "LTapePrinter$Sheet;", Cond.methodLink RX3 145 yX1_row, Cond.instanceMethod yX1_row, Cond.selects RX1 yX1_row yX1_row, Cond.initialized RX1, Cond.code yX1_row cX1_row 3 (some (.object "TapePrinter$Row")), Cond.fieldLink RX1 17 "TapePrinter$Sheet" "used" "I", Cond.fieldLink RX1 24 "TapePrinter$Sheet" "first" "I", Cond.fieldLink RX1 11 "TapePrinter$Sheet" "rows" "[LTapePrinter$Row;", Cond.methodLink RX3 122 yX0_has, Cond.instanceMethod yX0_has, Cond.selects RX0 yX0_has yX0_has, Cond.initialized RX0, Cond.code yX0_has cX0_has 2 (some .boolean), Cond.fieldLink RX0 13 "TapePrinter$Row" "size" "I", Cond.fieldLink RX0 7 "TapePrinter$Row" "values" "[I"]
def wsL_page_r2 : List Cond := [Cond.methodLink RX3 127 yX0_at, Cond.instanceMethod yX0_at, Cond.selects RX0 yX0_at yX0_at, Cond.code yX0_at cX0_at 2 (some .int), Cond.methodLink RX0 17 yX0_has]
def wsL_page : List Cond := .codeWith yL_page cL_page 5 (some .int) [(0, 10, 13, 13)] :: ((wsL_page_r1 ++ wsL_page_r2) ++ wsX30 ++ wsX10 ++ wsX00 ++ (vx_atS RX3 40 "java/lang/IndexOutOfBoundsException" ["java/lang/RuntimeException", "java/lang/Exception"]).filter goodWord)
def wsL_length : List Cond := .codeWith yL_length cL_length 4 (some .int) [(0, 9, 12, 13)] :: ([.classLink RL 13 "java/lang/IndexOutOfBoundsException", .methodLink RL 61 yX3_length, .instanceMethod yX3_length, .selects RX3 yX3_length yX3_length, .initialized RX3, .code yX3_length cX3_length 3 (some .int), .classLink RX3 36 "java/lang/IndexOutOfBoundsException", .initialized "java/lang/IndexOutOfBoundsException", .fieldLink RX3 19 "TapePrinter" "sheet" "LTapePrinter$Sheet;", .methodLink RX3 145 yX1_row, .instanceMethod yX1_row, .selects RX1 yX1_row yX1_row, .initialized RX1, .code yX1_row cX1_row 3 (some (.object "TapePrinter$Row")), .fieldLink RX1 17 "TapePrinter$Sheet" "used" "I", .fieldLink RX1 24 "TapePrinter$Sheet" "first" "I", .fieldLink RX1 11 "TapePrinter$Sheet" "rows" "[LTapePrinter$Row;", .methodLink RX3 107 yX0_size, .instanceMethod yX0_size, .selects RX0 yX0_size yX0_size, .initialized RX0, .code yX0_size cX0_size 1 (some .int), .fieldLink RX0 13 "TapePrinter$Row" "size" "I"] ++ wsX30 ++ wsX10 ++ wsX00 ++ (vx_atS RX3 40 "java/lang/IndexOutOfBoundsException" ["java/lang/RuntimeException", "java/lang/Exception"]).filter goodWord)
def wsL_count_r1 : List Cond := [Cond.classLink RL 13 "java/lang/IndexOutOfBoundsException", Cond.methodLink RL 64 yX3_count, Cond.instanceMethod yX3_count, Cond.selects RX3 yX3_count yX3_count, Cond.initialized RX3, Cond.code yX3_count cX3_count 2 (some .int), Cond.classLink RX3 36 "java/lang/IndexOutOfBoundsException", Cond.initialized "java/lang/IndexOutOfBoundsException", Cond.methodLink RX3 155 yX3_counted, Cond.instanceMethod yX3_counted, Cond.selects RX3 yX3_counted yX3_counted, Cond.code yX3_counted cX3_counted 2 (some .int), Cond.fieldLink RX3 19 "TapePrinter" "sheet" "LTapePrinter$Sheet;", Cond.fieldLink RX3 61 "TapePrinter" "figures" "Z", Cond.fieldLink RX3 10 "TapePrinter" "wire" "LTapePrinter$Wire;", Cond.fieldLink RX3 28 "TapePrinter" "strip" "LTapePrinter$Row;", Cond.fieldLink RX3 135 "TapePrinter" "reader" "I", Cond.fieldLink RX3 158 "TapePrinter" "came" "I", Cond.fieldLink RX3 198 "TapePrinter" "misread" "I", Cond.fieldLink RX3 201 "TapePrinter" "lost" "I", Cond.fieldLink RX3 90 "TapePrinter" "unshifts" "Z", Cond.fieldLink RX3 204 "TapePrinter" "bells" "I", Cond.methodLink RX3 177 yX1_lines, Cond.instanceMethod yX1_lines]
def wsL_count_r2 : List Cond := [Cond.selects RX1 yX1_lines yX1_lines, Cond.initialized RX1, Cond.code yX1_lines cX1_lines 1 (some .int), Cond.fieldLink RX1 17 "TapePrinter$Sheet" "used" "I", Cond.methodLink RX3 180 yX1_characters, Cond.instanceMethod yX1_characters, Cond.selects RX1 yX1_characters yX1_characters, Cond.code yX1_characters cX1_characters 4 (some .int), Cond.methodLink RX1 27 yX1_row, Cond.instanceMethod yX1_row, Cond.selects RX1 yX1_row yX1_row, Cond.code yX1_row cX1_row 3 (some (.object "TapePrinter$Row")), Cond.fieldLink RX1 24 "TapePrinter$Sheet" "first" "I", Cond.fieldLink RX1 11 "TapePrinter$Sheet" "rows" "[LTapePrinter$Row;", Cond.methodLink RX1 38 yX0_size, Cond.instanceMethod yX0_size, Cond.selects RX0 yX0_size yX0_size, Cond.initialized RX0, Cond.code yX0_size cX0_size 1 (some .int), Cond.fieldLink RX0 13 "TapePrinter$Row" "size" "I", Cond.methodLink RX3 83 yX2_play, Cond.instanceMethod yX2_play, Cond.selects RX2 yX2_play yX2_play, Cond.initialized RX2]
def wsL_count_r3 : List Cond := [Cond.code yX2_play cX2_play 1 (some .int), Cond.fieldLink RX2 27 "TapePrinter$Wire" "play" "I", Cond.methodLink RX3 107 yX0_size]
def wsL_count : List Cond := .codeWith yL_count cL_count 4 (some .int) [(0, 9, 12, 13)] :: ((wsL_count_r1 ++ (wsL_count_r2 ++ wsL_count_r3)) ++ wsX30 ++ wsX10 ++ wsX00 ++ wsX20 ++ (vx_atS RX3 40 "java/lang/IndexOutOfBoundsException" ["java/lang/RuntimeException", "java/lang/Exception"]).filter goodWord)
def wsL_would_r1 : List Cond := [Cond.classLink RL 13 "java/lang/IndexOutOfBoundsException", Cond.methodLink RL 67 yX3_would, Cond.instanceMethod yX3_would, Cond.selects RX3 yX3_would yX3_would, Cond.initialized RX3, Cond.code yX3_would cX3_would 2 (some .int), Cond.classLink RX3 36 "java/lang/IndexOutOfBoundsException", Cond.initialized "java/lang/IndexOutOfBoundsException", Cond.fieldLink RX3 10 "TapePrinter" "wire" "LTapePrinter$Wire;", Cond.fieldLink RX3 158 "TapePrinter" "came" "I", Cond.methodLink RX3 47 yX3_isCode, Cond.static yX3_isCode, Cond.code yX3_isCode cX3_isCode 1 (some .boolean), Cond.methodLink RX3 161 yX2_readAs, Cond.instanceMethod yX2_readAs, Cond.selects RX2 yX2_readAs yX2_readAs, Cond.initialized RX2, Cond.code yX2_readAs cX2_readAs 6 (some .int), Cond.fieldLink RX2 20 "TapePrinter$Wire" "garbled" "LTapePrinter$Row;", Cond.fieldLink RX2 14 "TapePrinter$Wire" "late" "LTapePrinter$Row;", Cond.fieldLink RX2 27 "TapePrinter$Wire" "play" "I", Cond.methodLink RX2 31 yX0_at, Cond.instanceMethod yX0_at, Cond.selects RX0 yX0_at yX0_at]
def wsL_would_r2 : List Cond := [Cond.initialized RX0, Cond.code yX0_at cX0_at 2 (some .int), Cond.fieldLink RX0 7 "TapePrinter$Row" "values" "[I", Cond.methodLink RX0 17 yX0_has, Cond.instanceMethod yX0_has, Cond.selects RX0 yX0_has yX0_has, Cond.code yX0_has cX0_has 2 (some .boolean), Cond.fieldLink RX0 13 "TapePrinter$Row" "size" "I"]
def wsL_would : List Cond := .codeWith yL_would cL_would 4 (some .int) [(0, 9, 12, 13)] :: ((wsL_would_r1 ++ wsL_would_r2) ++ wsX30 ++ wsX20 ++ wsX00 ++ (vx_atS RX3 40 "java/lang/IndexOutOfBoundsException" ["java/lang/RuntimeException", "java/lang/Exception"]).filter goodWord)
def wsL_prints_r1 : List Cond := [Cond.classLink RL 13 "java/lang/IndexOutOfBoundsException", Cond.methodLink RL 70 yX3_prints, Cond.instanceMethod yX3_prints, Cond.selects RX3 yX3_prints yX3_prints, Cond.initialized RX3, Cond.code yX3_prints cX3_prints 2 (some .int), Cond.classLink RX3 36 "java/lang/IndexOutOfBoundsException", Cond.initialized "java/lang/IndexOutOfBoundsException", Cond.fieldLink RX3 28 "TapePrinter" "strip" "LTapePrinter$Row;", Cond.methodLink RX3 122 yX0_has, Cond.instanceMethod yX0_has, Cond.selects RX0 yX0_has yX0_has, Cond.initialized RX0, Cond.code yX0_has cX0_has 2 (some .boolean), Cond.fieldLink RX0 13 "TapePrinter$Row" "size" "I", Cond.fieldLink RX0 7 "TapePrinter$Row" "values" "[I", Cond.methodLink RX3 127 yX0_at, Cond.instanceMethod yX0_at, Cond.selects RX0 yX0_at yX0_at, Cond.code yX0_at cX0_at 2 (some .int), Cond.methodLink RX0 17 yX0_has, Cond.methodLink RX3 174 yX3_figuresAhead, Cond.instanceMethod yX3_figuresAhead, Cond.selects RX3 yX3_figuresAhead yX3_figuresAhead]
def wsL_prints_r2 : List Cond := [Cond.code yX3_figuresAhead cX3_figuresAhead 4 (some .boolean), Cond.methodLink RX3 107 yX0_size, Cond.instanceMethod yX0_size, Cond.selects RX0 yX0_size yX0_size, Cond.code yX0_size cX0_size 1 (some .int), Cond.methodLink RX3 164 yX3_figuresBehind, Cond.instanceMethod yX3_figuresBehind, Cond.selects RX3 yX3_figuresBehind yX3_figuresBehind, Cond.code yX3_figuresBehind cX3_figuresBehind 3 (some .boolean), Cond.methodLink RX3 217 yX3_shiftsToLetters, Cond.instanceMethod yX3_shiftsToLetters, Cond.selects RX3 yX3_shiftsToLetters yX3_shiftsToLetters, Cond.code yX3_shiftsToLetters cX3_shiftsToLetters 2 (some .boolean), Cond.fieldLink RX3 90 "TapePrinter" "unshifts" "Z", Cond.methodLink RX3 52 yX3_characterOf, Cond.static yX3_characterOf, Cond.code yX3_characterOf cX3_characterOf 3 (some .int), Cond.methodLink RX3 211 yX3_characterInLetters, Cond.static yX3_characterInLetters, Cond.code yX3_characterInLetters cX3_characterInLetters 1 (some .int), Cond.fieldLink RX3 214 "TapePrinter" "CHARACTERS" "[I", Cond.methodLink RX3 113 yX3_dependsOnShift, Cond.static yX3_dependsOnShift, Cond.code yX3_dependsOnShift cX3_dependsOnShift 2 (some .boolean)]
def wsL_prints : List Cond := .codeWith yL_prints cL_prints 4 (some .int) [(0, 9, 12, 13)] :: ((wsL_prints_r1 ++ wsL_prints_r2) ++ wsX30 ++ wsX00 ++ (vx_atS RX3 40 "java/lang/IndexOutOfBoundsException" ["java/lang/RuntimeException", "java/lang/Exception"]).filter goodWord)
def wsL_law0_r1 : List Cond := [Cond.classLink RL 8 RX3, Cond.instantiable RX3 10, Cond.initialized RX3, Cond.classLink RL 74 RX4, Cond.instantiable RX4 16, Cond.initialized RX4, Cond.arrayClass .long, Cond.methodLink RL 73 yX3_init, Cond.instanceMethod yX3_init, Cond.code yX3_init cX3_init 1 none, Cond.methodLink RX3 1 objectInit, Cond.instanceMethod objectInit, Cond.code objectInit ⟨#[0xb1]⟩ 1 none, Cond.classLink RX3 7 RX2, Cond.instantiable RX2 3, Cond.initialized RX2, Cond.fieldLink RX3 10 "TapePrinter" "wire" "LTapePrinter$Wire;", Cond.classLink RX3 16 RX1, Cond.instantiable RX1 3, Cond.initialized RX1, Cond.fieldLink RX3 19 "TapePrinter" "sheet" "LTapePrinter$Sheet;", Cond.classLink RX3 23 RX0, Cond.instantiable RX0 2, Cond.initialized RX0]
def wsL_law0_r2 : List Cond := [Cond.fieldLink RX3 28 "TapePrinter" "strip" "LTapePrinter$Row;", Cond.methodLink RX3 9 yX2_init, Cond.instanceMethod yX2_init, Cond.code yX2_init cX2_init 2 none, Cond.methodLink RX2 3 objectInit, Cond.classLink RX2 9 RX0, Cond.fieldLink RX2 14 "TapePrinter$Wire" "late" "LTapePrinter$Row;", Cond.fieldLink RX2 20 "TapePrinter$Wire" "garbled" "LTapePrinter$Row;", Cond.methodLink RX2 11 yX0_init, Cond.instanceMethod yX0_init, Cond.code yX0_init cX0_init 2 none, Cond.methodLink RX0 1 objectInit, Cond.arrayClass .int, Cond.fieldLink RX0 7 "TapePrinter$Row" "values" "[I", Cond.methodLink RX2 23 yX0_add, Cond.instanceMethod yX0_add, Cond.selects RX0 yX0_add yX0_add, Cond.code yX0_add cX0_add 2 (some .boolean), Cond.fieldLink RX0 13 "TapePrinter$Row" "size" "I", Cond.methodLink RX3 18 yX1_init, Cond.instanceMethod yX1_init, Cond.code yX1_init cX1_init 2 none, Cond.methodLink RX1 3 objectInit, Cond.classLink RX1 9 RX0]
def wsL_law0_r3 : List Cond := [Cond.fieldLink RX1 11 "TapePrinter$Sheet" "rows" "[LTapePrinter$Row;", Cond.fieldLink RX1 17 "TapePrinter$Sheet" "used" "I", Cond.methodLink RX1 21 yX0_init, Cond.methodLink RX3 25 yX0_init, Cond.methodLink RL 76 yX4_init, Cond.instanceMethod yX4_init, Cond.code yX4_init cX4_init 1 none, Cond.methodLink RX4 1 objectInit, Cond.fieldLink RX4 7 "TapePrinterModel" "lines" "I", Cond.fieldLink RX4 13 "TapePrinterModel" "longs" "[I", Cond.fieldLink RX4 17 "TapePrinterModel" "page" "[I", Cond.fieldLink RX4 20 "TapePrinterModel" "lates" "[I", Cond.fieldLink RX4 23 "TapePrinterModel" "garbles" "[I", Cond.fieldLink RX4 26 "TapePrinterModel" "tape" "[I", Cond.methodLink RL 77 yL_code, Cond.static yL_code, Cond.initialized RL, Cond.codeWith yL_code cL_code 4 (some .int) [(0, 9, 12, 13)], Cond.classLink RL 13 "java/lang/IndexOutOfBoundsException", Cond.methodLink RL 7 yX3_code, Cond.instanceMethod yX3_code, Cond.selects RX3 yX3_code yX3_code, Cond.code yX3_code cX3_code 2 (some .int), Cond.classLink RX3 36 "java/lang/IndexOutOfBoundsException"]
def wsL_law0_r4 : List Cond := [Cond.initialized "java/lang/IndexOutOfBoundsException", Cond.methodLink RX3 32 yX3_isCharacter, Cond.static yX3_isCharacter, Cond.code yX3_isCharacter cX3_isCharacter 1 (some .boolean), Cond.methodLink RX3 43 yX3_codeOf, Cond.static yX3_codeOf, Cond.code yX3_codeOf cX3_codeOf 1 (some .int), Cond.fieldLink RX3 207 "TapePrinter" "CODES" "[I", Cond.methodLink RL 82 yX4_code, Cond.instanceMethod yX4_code, Cond.selects RX4 yX4_code yX4_code, Cond.code yX4_code cX4_code 2 (some .int), Cond.fieldLink RX4 29 "TapePrinterModel" "thrown" "I", Cond.methodLink RX4 40 yX4_isCharacter, Cond.static yX4_isCharacter, Cond.code yX4_isCharacter cX4_isCharacter 1 (some .boolean), Cond.methodLink RX4 32 yX4_isIn, Cond.static yX4_isIn, Cond.code yX4_isIn cX4_isIn 3 (some .boolean), Cond.methodLink RX4 43 yX4_codeOf, Cond.static yX4_codeOf, Cond.code yX4_codeOf cX4_codeOf 3 (some .int), Cond.methodLink RX4 36 yX4_isType, Cond.static yX4_isType]
def wsL_law0_r5 : List Cond := [Cond.code yX4_isType cX4_isType 1 (some .boolean), Cond.methodLink RX4 47 yX4_fail, Cond.instanceMethod yX4_fail, Cond.selects RX4 yX4_fail yX4_fail, Cond.code yX4_fail cX4_fail 2 (some .int), Cond.methodLink RL 83 yX4_thrown, Cond.instanceMethod yX4_thrown, Cond.selects RX4 yX4_thrown yX4_thrown, Cond.code yX4_thrown cX4_thrown 1 (some .int), Cond.methodLink RL 87 yL_character, Cond.static yL_character, Cond.codeWith yL_character cL_character 5 (some .int) [(0, 10, 13, 13)], Cond.methodLink RL 15 yX3_character, Cond.instanceMethod yX3_character, Cond.selects RX3 yX3_character yX3_character, Cond.code yX3_character cX3_character 3 (some .int), Cond.methodLink RX3 47 yX3_isCode, Cond.static yX3_isCode, Cond.code yX3_isCode cX3_isCode 1 (some .boolean), Cond.methodLink RX3 52 yX3_characterOf, Cond.static yX3_characterOf, Cond.code yX3_characterOf cX3_characterOf 3 (some .int), Cond.methodLink RX3 211 yX3_characterInLetters, Cond.static yX3_characterInLetters]
def wsL_law0_r6 : List Cond := [Cond.code yX3_characterInLetters cX3_characterInLetters 1 (some .int), Cond.fieldLink RX3 214 "TapePrinter" "CHARACTERS" "[I", Cond.methodLink RX3 113 yX3_dependsOnShift, Cond.static yX3_dependsOnShift, Cond.code yX3_dependsOnShift cX3_dependsOnShift 2 (some .boolean), Cond.methodLink RL 90 yX4_character, Cond.instanceMethod yX4_character, Cond.selects RX4 yX4_character yX4_character, Cond.code yX4_character cX4_character 3 (some .int), Cond.methodLink RX4 50 yX4_isCode, Cond.static yX4_isCode, Cond.code yX4_isCode cX4_isCode 1 (some .boolean), Cond.methodLink RX4 53 yX4_characterOf, Cond.static yX4_characterOf, Cond.code yX4_characterOf cX4_characterOf 4 (some .int), Cond.methodLink RL 91 yL_apart, Cond.static yL_apart, Cond.codeWith yL_apart cL_apart 5 (some .int) [(0, 10, 13, 13)], Cond.methodLink RL 19 yX3_apart, Cond.instanceMethod yX3_apart, Cond.selects RX3 yX3_apart yX3_apart, Cond.code yX3_apart cX3_apart 3 (some .int), Cond.methodLink RX3 56 yJ6_bitCount_0f7a4, Cond.static yJ6_bitCount_0f7a4]
def wsL_law0_r7 : List Cond := [Cond.initialized RJ6, Cond.code yJ6_bitCount_0f7a4 cJ6_bitCount_0f7a4 1 (some .int), Cond.constant RJ6 265 (1431655765), Cond.constant RJ6 266 (858993459), Cond.constant RJ6 267 (252645135), Cond.methodLink RL 94 yX4_apart, Cond.instanceMethod yX4_apart, Cond.selects RX4 yX4_apart yX4_apart, Cond.code yX4_apart cX4_apart 3 (some .int), Cond.methodLink RX4 57 yX4_size, Cond.static yX4_size, Cond.code yX4_size cX4_size 3 (some .int), Cond.methodLink RL 95 yL_doubts, Cond.static yL_doubts, Cond.codeWith yL_doubts cL_doubts 4 (some .int) [(0, 9, 12, 13)], Cond.methodLink RL 23 yX3_doubts, Cond.instanceMethod yX3_doubts, Cond.selects RX3 yX3_doubts yX3_doubts, Cond.code yX3_doubts cX3_doubts 5 (some .int), Cond.fieldLink RX3 61 "TapePrinter" "figures" "Z", Cond.methodLink RL 97 yX4_doubts, Cond.instanceMethod yX4_doubts, Cond.selects RX4 yX4_doubts yX4_doubts, Cond.code yX4_doubts cX4_doubts 4 (some .int)]
def wsL_law0_r8 : List Cond := [Cond.fieldLink RX4 60 "TapePrinterModel" "isFigures" "Z", Cond.methodLink RL 98 yL_setLine, Cond.static yL_setLine, Cond.codeWith yL_setLine cL_setLine 6 (some .int) [(0, 12, 15, 13), (0, 12, 19, 30)], Cond.classLink RL 30 "java/lang/IllegalArgumentException", Cond.methodLink RL 26 yX3_setLine, Cond.instanceMethod yX3_setLine, Cond.selects RX3 yX3_setLine yX3_setLine, Cond.code yX3_setLine cX3_setLine 5 (some .int), Cond.classLink RX3 67 "java/lang/IllegalArgumentException", Cond.initialized "java/lang/IllegalArgumentException", Cond.methodLink RX3 74 yX2_lateAt, Cond.instanceMethod yX2_lateAt, Cond.selects RX2 yX2_lateAt yX2_lateAt, Cond.code yX2_lateAt cX2_lateAt 2 (some .int), Cond.methodLink RX2 31 yX0_at, Cond.instanceMethod yX0_at, Cond.selects RX0 yX0_at yX0_at, Cond.code yX0_at cX0_at 2 (some .int), Cond.methodLink RX0 17 yX0_has, Cond.instanceMethod yX0_has, Cond.selects RX0 yX0_has yX0_has, Cond.code yX0_has cX0_has 2 (some .boolean), Cond.methodLink RX3 77 yX2_change]
def wsL_law0_r9 : List Cond := [Cond.instanceMethod yX2_change, Cond.selects RX2 yX2_change yX2_change, Cond.code yX2_change cX2_change 4 none, Cond.methodLink RX2 35 yX0_change, Cond.instanceMethod yX0_change, Cond.selects RX0 yX0_change yX0_change, Cond.code yX0_change cX0_change 3 none, Cond.methodLink RL 101 yX4_setLine, Cond.instanceMethod yX4_setLine, Cond.selects RX4 yX4_setLine yX4_setLine, Cond.code yX4_setLine cX4_setLine 5 (some .int), Cond.methodLink RL 102 yL_setPlay, Cond.static yL_setPlay, Cond.codeWith yL_setPlay cL_setPlay 4 (some .int) [(0, 9, 12, 30)], Cond.methodLink RL 32 yX3_setPlay, Cond.instanceMethod yX3_setPlay, Cond.selects RX3 yX3_setPlay yX3_setPlay, Cond.code yX3_setPlay cX3_setPlay 3 (some .int), Cond.methodLink RX3 83 yX2_play, Cond.instanceMethod yX2_play, Cond.selects RX2 yX2_play yX2_play, Cond.code yX2_play cX2_play 1 (some .int), Cond.fieldLink RX2 27 "TapePrinter$Wire" "play" "I", Cond.methodLink RX3 87 yX2_changePlay]
def wsL_law0_r10 : List Cond := [Cond.instanceMethod yX2_changePlay, Cond.selects RX2 yX2_changePlay yX2_changePlay, Cond.code yX2_changePlay cX2_changePlay 2 none, Cond.methodLink RL 104 yX4_setPlay, Cond.instanceMethod yX4_setPlay, Cond.selects RX4 yX4_setPlay yX4_setPlay, Cond.code yX4_setPlay cX4_setPlay 3 (some .int), Cond.fieldLink RX4 64 "TapePrinterModel" "play" "I", Cond.methodLink RL 105 yX3_setUnshift, Cond.instanceMethod yX3_setUnshift, Cond.selects RX3 yX3_setUnshift yX3_setUnshift, Cond.code yX3_setUnshift cX3_setUnshift 3 (some .boolean), Cond.fieldLink RX3 90 "TapePrinter" "unshifts" "Z", Cond.methodLink RL 109 yX4_setUnshift, Cond.instanceMethod yX4_setUnshift, Cond.selects RX4 yX4_setUnshift yX4_setUnshift, Cond.code yX4_setUnshift cX4_setUnshift 3 (some .boolean), Cond.fieldLink RX4 67 "TapePrinterModel" "unshifts" "Z", Cond.methodLink RL 110 yL_receive, Cond.static yL_receive, Cond.codeWith yL_receive cL_receive 4 (some .int) [(0, 9, 12, 13)], Cond.methodLink RL 35 yX3_receive, Cond.instanceMethod yX3_receive, Cond.selects RX3 yX3_receive yX3_receive]
def wsL_law0_r11 : List Cond := [Cond.code yX3_receive cX3_receive 2 (some .int), Cond.methodLink RX3 93 yX3_takeIn, Cond.instanceMethod yX3_takeIn, Cond.selects RX3 yX3_takeIn yX3_takeIn, Cond.code yX3_takeIn cX3_takeIn 3 (some .int), Cond.fieldLink RX3 158 "TapePrinter" "came" "I", Cond.fieldLink RX3 198 "TapePrinter" "misread" "I", Cond.methodLink RX3 161 yX2_readAs, Cond.instanceMethod yX2_readAs, Cond.selects RX2 yX2_readAs yX2_readAs, Cond.code yX2_readAs cX2_readAs 6 (some .int), Cond.methodLink RX3 220 yX3_obey, Cond.instanceMethod yX3_obey, Cond.selects RX3 yX3_obey yX3_obey, Cond.code yX3_obey cX3_obey 3 none, Cond.fieldLink RX3 201 "TapePrinter" "lost" "I", Cond.fieldLink RX3 204 "TapePrinter" "bells" "I", Cond.methodLink RX3 223 yX1_beginLine, Cond.instanceMethod yX1_beginLine, Cond.selects RX1 yX1_beginLine yX1_beginLine, Cond.code yX1_beginLine cX1_beginLine 2 none, Cond.fieldLink RX1 24 "TapePrinter$Sheet" "first" "I", Cond.methodLink RX1 27 yX1_row, Cond.instanceMethod yX1_row]
def wsL_law0_r12 : List Cond := [Cond.selects RX1 yX1_row yX1_row, Cond.code yX1_row cX1_row 3 (some (.object "TapePrinter$Row")), Cond.methodLink RX1 35 yX0_clear, Cond.instanceMethod yX0_clear, Cond.selects RX0 yX0_clear yX0_clear, Cond.code yX0_clear cX0_clear 1 none, Cond.methodLink RX3 226 yX1_add, Cond.instanceMethod yX1_add, Cond.selects RX1 yX1_add yX1_add, Cond.code yX1_add cX1_add 3 (some .boolean), Cond.methodLink RX1 31 yX0_add, Cond.methodLink RX3 164 yX3_figuresBehind, Cond.instanceMethod yX3_figuresBehind, Cond.selects RX3 yX3_figuresBehind yX3_figuresBehind, Cond.code yX3_figuresBehind cX3_figuresBehind 3 (some .boolean), Cond.methodLink RX3 217 yX3_shiftsToLetters, Cond.instanceMethod yX3_shiftsToLetters, Cond.selects RX3 yX3_shiftsToLetters yX3_shiftsToLetters, Cond.code yX3_shiftsToLetters cX3_shiftsToLetters 2 (some .boolean), Cond.methodLink RL 112 yX4_receive, Cond.instanceMethod yX4_receive, Cond.selects RX4 yX4_receive yX4_receive, Cond.code yX4_receive cX4_receive 2 (some .int), Cond.methodLink RX4 106 yX4_come]
def wsL_law0_r13 : List Cond := [Cond.instanceMethod yX4_come, Cond.selects RX4 yX4_come yX4_come, Cond.code yX4_come cX4_come 3 (some .int), Cond.fieldLink RX4 93 "TapePrinterModel" "came" "I", Cond.fieldLink RX4 100 "TapePrinterModel" "wrongly" "I", Cond.methodLink RX4 96 yX4_read, Cond.instanceMethod yX4_read, Cond.selects RX4 yX4_read yX4_read, Cond.code yX4_read cX4_read 5 (some .int), Cond.methodLink RX4 103 yX4_print, Cond.instanceMethod yX4_print, Cond.selects RX4 yX4_print yX4_print, Cond.code yX4_print cX4_print 2 none, Cond.fieldLink RX4 82 "TapePrinterModel" "rang" "I", Cond.methodLink RX4 79 yX4_feed, Cond.instanceMethod yX4_feed, Cond.selects RX4 yX4_feed yX4_feed, Cond.code yX4_feed cX4_feed 1 none, Cond.methodLink RX4 73 arraycopyName, Cond.native arraycopyName, Cond.static arraycopyName, Cond.initialized "java/lang/System", Cond.methodLink RX4 85 yX4_set, Cond.instanceMethod yX4_set]
def wsL_law0_r14 : List Cond := [Cond.selects RX4 yX4_set yX4_set, Cond.code yX4_set cX4_set 2 none, Cond.fieldLink RX4 70 "TapePrinterModel" "lost" "I", Cond.methodLink RX4 89 yX4_shift, Cond.instanceMethod yX4_shift, Cond.selects RX4 yX4_shift yX4_shift, Cond.code yX4_shift cX4_shift 3 (some .boolean), Cond.methodLink RL 113 yL_punch, Cond.static yL_punch, Cond.codeWith yL_punch cL_punch 4 (some .int) [(0, 9, 12, 13), (0, 9, 15, 41)], Cond.classLink RL 41 "java/lang/IllegalStateException", Cond.methodLink RL 38 yX3_punch, Cond.instanceMethod yX3_punch, Cond.selects RX3 yX3_punch yX3_punch, Cond.code yX3_punch cX3_punch 2 (some .int), Cond.classLink RX3 99 "java/lang/IllegalStateException", Cond.initialized "java/lang/IllegalStateException", Cond.methodLink RX3 96 yX0_room, Cond.instanceMethod yX0_room, Cond.selects RX0 yX0_room yX0_room, Cond.code yX0_room cX0_room 1 (some .int), Cond.methodLink RX3 104 yX0_add, Cond.methodLink RX3 107 yX0_size, Cond.instanceMethod yX0_size]
def wsL_law0_r15 : List Cond := [Cond.selects RX0 yX0_size yX0_size, Cond.code yX0_size cX0_size 1 (some .int), Cond.methodLink RL 115 yX4_punch, Cond.instanceMethod yX4_punch, Cond.selects RX4 yX4_punch yX4_punch, Cond.code yX4_punch cX4_punch 2 (some .int), Cond.fieldLink RX4 109 "TapePrinterModel" "codes" "I", Cond.methodLink RX4 112 yX4_put, Cond.instanceMethod yX4_put, Cond.selects RX4 yX4_put yX4_put, Cond.code yX4_put cX4_put 2 none, Cond.methodLink RL 116 yL_type, Cond.static yL_type, Cond.codeWith yL_type cL_type 4 (some .int) [(0, 9, 12, 13), (0, 9, 15, 41)], Cond.methodLink RL 43 yX3_type, Cond.instanceMethod yX3_type, Cond.selects RX3 yX3_type yX3_type, Cond.code yX3_type cX3_type 5 (some .int), Cond.methodLink RX3 110 yX3_isFigure, Cond.static yX3_isFigure, Cond.code yX3_isFigure cX3_isFigure 1 (some .boolean), Cond.methodLink RX3 116 yX3_figuresAtEnd, Cond.instanceMethod yX3_figuresAtEnd, Cond.selects RX3 yX3_figuresAtEnd yX3_figuresAtEnd]
def wsL_law0_r16 : List Cond := [Cond.code yX3_figuresAtEnd cX3_figuresAtEnd 1 (some .boolean), Cond.methodLink RX3 174 yX3_figuresAhead, Cond.instanceMethod yX3_figuresAhead, Cond.selects RX3 yX3_figuresAhead yX3_figuresAhead, Cond.code yX3_figuresAhead cX3_figuresAhead 4 (some .boolean), Cond.methodLink RX3 127 yX0_at, Cond.methodLink RL 118 yX4_type, Cond.instanceMethod yX4_type, Cond.selects RX4 yX4_type yX4_type, Cond.code yX4_type cX4_type 4 (some .int), Cond.methodLink RX4 115 yX4_shiftAt, Cond.instanceMethod yX4_shiftAt, Cond.selects RX4 yX4_shiftAt yX4_shiftAt, Cond.code yX4_shiftAt cX4_shiftAt 4 (some .boolean), Cond.methodLink RL 119 yL_rub, Cond.static yL_rub, Cond.codeWith yL_rub cL_rub 4 (some .int) [(0, 9, 12, 13)], Cond.methodLink RL 46 yX3_rub, Cond.instanceMethod yX3_rub, Cond.selects RX3 yX3_rub yX3_rub, Cond.code yX3_rub cX3_rub 3 (some .int), Cond.methodLink RX3 122 yX0_has, Cond.methodLink RX3 130 yX0_change, Cond.methodLink RL 121 yX4_rub]
def wsL_law0_r17 : List Cond := [Cond.instanceMethod yX4_rub, Cond.selects RX4 yX4_rub yX4_rub, Cond.code yX4_rub cX4_rub 3 (some .int), Cond.methodLink RX4 118 yX4_isPlace, Cond.instanceMethod yX4_isPlace, Cond.selects RX4 yX4_isPlace yX4_isPlace, Cond.code yX4_isPlace cX4_isPlace 2 (some .boolean), Cond.methodLink RL 122 yL_run, Cond.static yL_run, Cond.codeWith yL_run cL_run 4 (some .int) [(0, 9, 12, 30)], Cond.methodLink RL 49 yX3_run, Cond.instanceMethod yX3_run, Cond.selects RX3 yX3_run yX3_run, Cond.code yX3_run cX3_run 4 (some .int), Cond.fieldLink RX3 135 "TapePrinter" "reader" "I", Cond.methodLink RX3 139 Lib.Math.min.name, Cond.static Lib.Math.min.name, Cond.initialized "java/lang/Math", Cond.code Lib.Math.min.name Lib.Math.min.code 2 (some .int), Cond.methodLink RL 124 yX4_run, Cond.instanceMethod yX4_run, Cond.selects RX4 yX4_run yX4_run, Cond.code yX4_run cX4_run 4 (some .int), Cond.fieldLink RX4 121 "TapePrinterModel" "reader" "I"]
def wsL_law0_r18 : List Cond := [Cond.methodLink RX4 124 Lib.Math.min.name, Cond.methodLink RL 125 yL_wind, Cond.static yL_wind, Cond.codeWith yL_wind cL_wind 4 (some .int) [(0, 9, 12, 13)], Cond.methodLink RL 52 yX3_wind, Cond.instanceMethod yX3_wind, Cond.selects RX3 yX3_wind yX3_wind, Cond.code yX3_wind cX3_wind 3 (some .int), Cond.methodLink RL 127 yX4_wind, Cond.instanceMethod yX4_wind, Cond.selects RX4 yX4_wind yX4_wind, Cond.code yX4_wind cX4_wind 3 (some .int), Cond.methodLink RL 128 yL_tape, Cond.static yL_tape, Cond.codeWith yL_tape cL_tape 4 (some .int) [(0, 9, 12, 13)], Cond.methodLink RL 55 yX3_tape, Cond.instanceMethod yX3_tape, Cond.selects RX3 yX3_tape yX3_tape, Cond.code yX3_tape cX3_tape 2 (some .int), Cond.methodLink RL 130 yX4_tape, Cond.instanceMethod yX4_tape, Cond.selects RX4 yX4_tape yX4_tape, Cond.code yX4_tape cX4_tape 2 (some .int), Cond.methodLink RL 131 yL_page]
def wsL_law0_r19 : List Cond := [Cond.static yL_page, Cond.codeWith yL_page cL_page 5 (some .int) [(0, 10, 13, 13)], Cond.methodLink RL 58 yX3_page, Cond.instanceMethod yX3_page, Cond.selects RX3 yX3_page yX3_page, Cond.code yX3_page cX3_page 4 (some .int), Cond.methodLink RX3 145 yX1_row, Cond.methodLink RL 133 yX4_page, Cond.instanceMethod yX4_page, Cond.selects RX4 yX4_page yX4_page, Cond.code yX4_page cX4_page 3 (some .int), Cond.methodLink RX4 129 yX4_isLine, Cond.instanceMethod yX4_isLine, Cond.selects RX4 yX4_isLine yX4_isLine, Cond.code yX4_isLine cX4_isLine 2 (some .boolean), Cond.methodLink RL 134 yL_length, Cond.static yL_length, Cond.codeWith yL_length cL_length 4 (some .int) [(0, 9, 12, 13)], Cond.methodLink RL 61 yX3_length, Cond.instanceMethod yX3_length, Cond.selects RX3 yX3_length yX3_length, Cond.code yX3_length cX3_length 3 (some .int), Cond.methodLink RL 136 yX4_length, Cond.instanceMethod yX4_length]
def wsL_law0_r20 : List Cond := [Cond.selects RX4 yX4_length yX4_length, Cond.code yX4_length cX4_length 2 (some .int), Cond.methodLink RL 137 yL_count, Cond.static yL_count, Cond.codeWith yL_count cL_count 4 (some .int) [(0, 9, 12, 13)], Cond.methodLink RL 64 yX3_count, Cond.instanceMethod yX3_count, Cond.selects RX3 yX3_count yX3_count, Cond.code yX3_count cX3_count 2 (some .int), Cond.methodLink RX3 155 yX3_counted, Cond.instanceMethod yX3_counted, Cond.selects RX3 yX3_counted yX3_counted, Cond.code yX3_counted cX3_counted 2 (some .int), Cond.methodLink RX3 177 yX1_lines, Cond.instanceMethod yX1_lines, Cond.selects RX1 yX1_lines yX1_lines, Cond.code yX1_lines cX1_lines 1 (some .int), Cond.methodLink RX3 180 yX1_characters, Cond.instanceMethod yX1_characters, Cond.selects RX1 yX1_characters yX1_characters, Cond.code yX1_characters cX1_characters 4 (some .int), Cond.methodLink RX1 38 yX0_size, Cond.methodLink RL 139 yX4_count, Cond.instanceMethod yX4_count]
def wsL_law0_r21 : List Cond := [Cond.selects RX4 yX4_count yX4_count, Cond.code yX4_count cX4_count 2 (some .int), Cond.methodLink RX4 132 yX4_counted, Cond.instanceMethod yX4_counted, Cond.selects RX4 yX4_counted yX4_counted, Cond.code yX4_counted cX4_counted 4 (some .int), Cond.methodLink RL 140 yL_would, Cond.static yL_would, Cond.codeWith yL_would cL_would 4 (some .int) [(0, 9, 12, 13)], Cond.methodLink RL 67 yX3_would, Cond.instanceMethod yX3_would, Cond.selects RX3 yX3_would yX3_would, Cond.code yX3_would cX3_would 2 (some .int), Cond.methodLink RL 142 yX4_would, Cond.instanceMethod yX4_would, Cond.selects RX4 yX4_would yX4_would, Cond.code yX4_would cX4_would 2 (some .int), Cond.methodLink RL 143 yX3_wrong, Cond.instanceMethod yX3_wrong, Cond.selects RX3 yX3_wrong yX3_wrong, Cond.code yX3_wrong cX3_wrong 4 (some .int), Cond.methodLink RL 146 yX4_wrong, Cond.instanceMethod yX4_wrong, Cond.selects RX4 yX4_wrong yX4_wrong]
def wsL_law0_r22 : List Cond := [Cond.code yX4_wrong cX4_wrong 3 (some .int), Cond.methodLink RL 147 yX3_idle, Cond.instanceMethod yX3_idle, Cond.selects RX3 yX3_idle yX3_idle, Cond.code yX3_idle cX3_idle 6 (some .int), Cond.methodLink RX3 168 yX3_isShift, Cond.static yX3_isShift, Cond.code yX3_isShift cX3_isShift 1 (some .boolean), Cond.methodLink RX3 171 yX3_servesBehind, Cond.instanceMethod yX3_servesBehind, Cond.selects RX3 yX3_servesBehind yX3_servesBehind, Cond.code yX3_servesBehind cX3_servesBehind 4 (some .boolean), Cond.methodLink RL 150 yX4_idle, Cond.instanceMethod yX4_idle, Cond.selects RX4 yX4_idle yX4_idle, Cond.code yX4_idle cX4_idle 3 (some .int), Cond.methodLink RX4 138 yX4_isIdle, Cond.instanceMethod yX4_isIdle, Cond.selects RX4 yX4_isIdle yX4_isIdle, Cond.code yX4_isIdle cX4_isIdle 3 (some .boolean), Cond.methodLink RX4 135 yX4_isShift, Cond.instanceMethod yX4_isShift, Cond.selects RX4 yX4_isShift yX4_isShift, Cond.code yX4_isShift cX4_isShift 2 (some .boolean)]
def wsL_law0_r23 : List Cond := [Cond.methodLink RL 151 yL_prints, Cond.static yL_prints, Cond.codeWith yL_prints cL_prints 4 (some .int) [(0, 9, 12, 13)], Cond.methodLink RL 70 yX3_prints, Cond.instanceMethod yX3_prints, Cond.selects RX3 yX3_prints yX3_prints, Cond.code yX3_prints cX3_prints 2 (some .int), Cond.methodLink RL 153 yX4_prints, Cond.instanceMethod yX4_prints, Cond.selects RX4 yX4_prints yX4_prints, Cond.code yX4_prints cX4_prints 2 (some .int), Cond.methodLink RL 154 yX3_mean, Cond.instanceMethod yX3_mean, Cond.selects RX3 yX3_mean yX3_mean, Cond.code yX3_mean cX3_mean 2 (some .double), Cond.methodLink RL 158 yX4_mean, Cond.instanceMethod yX4_mean, Cond.selects RX4 yX4_mean yX4_mean, Cond.code yX4_mean cX4_mean 1 (some .double), Cond.methodLink RL 159 yX3_digest, Cond.instanceMethod yX3_digest, Cond.selects RX3 yX3_digest yX3_digest, Cond.code yX3_digest cX3_digest 5 (some .long), Cond.constantLong RX3 183 (1373)]
def wsL_law0_r24 : List Cond := [Cond.methodLink RX3 185 yX3_mixed, Cond.static yX3_mixed, Cond.code yX3_mixed cX3_mixed 3 (some .long), Cond.constantLong RX3 196 (31), Cond.methodLink RX3 189 yX2_garbledAt, Cond.instanceMethod yX2_garbledAt, Cond.selects RX2 yX2_garbledAt yX2_garbledAt, Cond.code yX2_garbledAt cX2_garbledAt 2 (some .int), Cond.methodLink RX3 192 yX3_mixedRow, Cond.static yX3_mixedRow, Cond.code yX3_mixedRow cX3_mixedRow 6 (some .long), Cond.methodLink RL 163 yX4_digest, Cond.instanceMethod yX4_digest, Cond.selects RX4 yX4_digest yX4_digest, Cond.code yX4_digest cX4_digest 5 (some .long), Cond.constantLong RX4 141 (1373), Cond.constantLong RX4 143 (31)]
def wsL_law0 : List Cond := (wsL_law0_r1 ++ (wsL_law0_r2 ++ (wsL_law0_r3 ++ (wsL_law0_r4 ++ (wsL_law0_r5 ++ (wsL_law0_r6 ++ (wsL_law0_r7 ++ (wsL_law0_r8 ++ (wsL_law0_r9 ++ (wsL_law0_r10 ++ (wsL_law0_r11 ++ (wsL_law0_r12 ++ (wsL_law0_r13 ++ (wsL_law0_r14 ++ (wsL_law0_r15 ++ (wsL_law0_r16 ++ (wsL_law0_r17 ++ (wsL_law0_r18 ++ (wsL_law0_r19 ++ (wsL_law0_r20 ++ (wsL_law0_r21 ++ (wsL_law0_r22 ++ (wsL_law0_r23 ++ wsL_law0_r24))))))))))))))))))))))) ++ wsX30 ++ wsX40 ++ wsX20 ++ wsX10 ++ wsX00 ++ ([] : List Cond)
def wsL_law : List Cond := wsL_law0 ++ (vx_atS RX3 40 "java/lang/IndexOutOfBoundsException" ["java/lang/RuntimeException", "java/lang/Exception"]).filter goodWord ++ (vx_atS RX3 71 "java/lang/IllegalArgumentException" ["java/lang/RuntimeException", "java/lang/Exception"]).filter goodWord ++ (vx_atS RX3 103 "java/lang/IllegalStateException" ["java/lang/RuntimeException", "java/lang/Exception"]).filter goodWord
theorem in_pl {big ws : List Cond} (ps : List Nat) (h : ws = ps.filterMap (fun i => big[i]?)) : ∀ w ∈ ws, w ∈ big := by
  intro w hw
  rw [h] at hw
  obtain ⟨i, -, hi⟩ := List.mem_filterMap.mp hw
  exact List.mem_of_getElem? hi
theorem in_app {big a b : List Cond} (ha : ∀ w ∈ a, w ∈ big) (hb : ∀ w ∈ b, w ∈ big) : ∀ w ∈ a ++ b, w ∈ big := fun w h => (List.mem_append.mp h).elim (ha w) (hb w)
set_option maxRecDepth 20000 in
theorem wsL_law_q1 : ∀ w ∈ wsL_law0_r1, w ∈ lw_tbl := in_pl [38, 39, 24, 543, 544, 28, 777, 40, 41, 42, 43, 44, 45, 46, 47, 25, 101, 80, 81, 27, 102, 99, 53, 26] (by decide +kernel)
set_option maxRecDepth 20000 in
theorem wsL_law_q2 : ∀ w ∈ wsL_law0_r2, w ∈ lw_tbl := in_pl [103, 48, 49, 50, 51, 52, 70, 71, 54, 55, 56, 57, 65, 58, 66, 67, 68, 69, 59, 82, 83, 84, 85, 86] (by decide +kernel)
set_option maxRecDepth 20000 in
theorem wsL_law_q3 : ∀ w ∈ wsL_law0_r3, w ∈ lw_tbl := in_pl [89, 91, 88, 100, 545, 546, 547, 548, 553, 554, 555, 556, 557, 558, 230, 231, 23, 232, 233, 234, 235, 236, 237, 241] (by decide +kernel)
set_option maxRecDepth 20000 in
theorem wsL_law_q4 : ∀ w ∈ wsL_law0_r4, w ∈ lw_tbl := in_pl [32, 238, 239, 240, 309, 310, 311, 312, 602, 603, 604, 605, 549, 606, 607, 608, 609, 610, 611, 612, 613, 614, 615, 616] (by decide +kernel)
set_option maxRecDepth 20000 in
theorem wsL_law_q5 : ∀ w ∈ wsL_law0_r5, w ∈ lw_tbl := in_pl [617, 618, 620, 9, 621, 598, 599, 600, 601, 314, 315, 316, 317, 318, 319, 320, 321, 322, 323, 325, 326, 327, 179, 180] (by decide +kernel)
set_option maxRecDepth 20000 in
theorem wsL_law_q6 : ∀ w ∈ wsL_law0_r6, w ∈ lw_tbl := in_pl [181, 182, 176, 177, 178, 622, 623, 624, 625, 626, 627, 628, 629, 630, 631, 328, 329, 330, 331, 332, 333, 334, 335, 336] (by decide +kernel)
set_option maxRecDepth 20000 in
theorem wsL_law_q7 : ∀ w ∈ wsL_law0_r7, w ∈ lw_tbl := in_pl [33, 337, 338, 339, 340, 632, 633, 634, 635, 636, 637, 638, 341, 342, 343, 344, 345, 346, 347, 105, 639, 640, 641, 642] (by decide +kernel)
set_option maxRecDepth 20000 in
theorem wsL_law_q8 : ∀ w ∈ wsL_law0_r8, w ∈ lw_tbl := in_pl [550, 348, 349, 350, 351, 352, 353, 354, 355, 357, 34, 218, 219, 220, 221, 156, 145, 146, 147, 148, 149, 150, 151, 374] (by decide +kernel)
set_option maxRecDepth 20000 in
theorem wsL_law_q9 : ∀ w ∈ wsL_law0_r9, w ∈ lw_tbl := in_pl [375, 376, 377, 378, 379, 380, 381, 643, 644, 645, 646, 382, 383, 384, 385, 386, 387, 388, 210, 211, 212, 213, 72, 390] (by decide +kernel)
set_option maxRecDepth 20000 in
theorem wsL_law_q10 : ∀ w ∈ wsL_law0_r10, w ∈ lw_tbl := in_pl [391, 392, 393, 647, 648, 649, 650, 552, 132, 133, 134, 135, 106, 651, 652, 653, 654, 551, 394, 395, 396, 397, 398, 399] (by decide +kernel)
set_option maxRecDepth 20000 in
theorem wsL_law_q11 : ∀ w ∈ wsL_law0_r11, w ∈ lw_tbl := in_pl [400, 401, 403, 5, 404, 107, 108, 152, 153, 154, 155, 405, 407, 6, 408, 109, 110, 409, 410, 411, 412, 90, 196, 197] (by decide +kernel)
set_option maxRecDepth 20000 in
theorem wsL_law_q12 : ∀ w ∈ wsL_law0_r12, w ∈ lw_tbl := in_pl [198, 199, 413, 414, 415, 416, 417, 418, 419, 420, 421, 161, 163, 0, 164, 165, 167, 1, 168, 655, 656, 657, 658, 659] (by decide +kernel)
set_option maxRecDepth 20000 in
theorem wsL_law_q13 : ∀ w ∈ wsL_law0_r13, w ∈ lw_tbl := in_pl [661, 10, 662, 561, 562, 663, 665, 11, 666, 667, 669, 12, 670, 564, 671, 673, 13, 674, 675, 677, 676, 35, 678, 680] (by decide +kernel)
set_option maxRecDepth 20000 in
theorem wsL_law_q14 : ∀ w ∈ wsL_law0_r14, w ∈ lw_tbl := in_pl [14, 681, 563, 682, 684, 15, 685, 422, 423, 424, 425, 426, 427, 428, 429, 434, 36, 430, 431, 432, 433, 450, 140, 141] (by decide +kernel)
set_option maxRecDepth 20000 in
theorem wsL_law_q15 : ∀ w ∈ wsL_law0_r15, w ∈ lw_tbl := in_pl [142, 143, 686, 687, 688, 689, 559, 690, 692, 16, 693, 451, 452, 453, 454, 455, 456, 457, 458, 459, 460, 461, 463, 7] (by decide +kernel)
set_option maxRecDepth 20000 in
theorem wsL_law_q16 : ∀ w ∈ wsL_law0_r16, w ∈ lw_tbl := in_pl [464, 465, 467, 8, 468, 144, 694, 695, 696, 697, 698, 700, 17, 701, 470, 471, 472, 473, 474, 475, 476, 477, 479, 702] (by decide +kernel)
set_option maxRecDepth 20000 in
theorem wsL_law_q17 : ∀ w ∈ wsL_law0_r17, w ∈ lw_tbl := in_pl [703, 704, 705, 706, 708, 18, 709, 480, 481, 482, 483, 484, 485, 486, 104, 488, 489, 37, 490, 710, 711, 712, 713, 560] (by decide +kernel)
set_option maxRecDepth 20000 in
theorem wsL_law_q18 : ∀ w ∈ wsL_law0_r18, w ∈ lw_tbl := in_pl [714, 491, 492, 493, 494, 495, 496, 497, 715, 716, 717, 718, 498, 499, 500, 501, 502, 503, 504, 719, 720, 721, 722, 505] (by decide +kernel)
set_option maxRecDepth 20000 in
theorem wsL_law_q19 : ∀ w ∈ wsL_law0_r19, w ∈ lw_tbl := in_pl [506, 507, 508, 509, 510, 511, 226, 723, 724, 725, 726, 727, 729, 19, 730, 513, 514, 515, 516, 517, 518, 519, 731, 732] (by decide +kernel)
set_option maxRecDepth 20000 in
theorem wsL_law_q20 : ∀ w ∈ wsL_law0_r20, w ∈ lw_tbl := in_pl [733, 734, 521, 522, 523, 524, 525, 526, 527, 206, 208, 3, 209, 188, 189, 190, 191, 192, 193, 194, 195, 200, 735, 736] (by decide +kernel)
set_option maxRecDepth 20000 in
theorem wsL_law_q21 : ∀ w ∈ wsL_law0_r21, w ∈ lw_tbl := in_pl [737, 738, 739, 741, 20, 742, 529, 530, 531, 532, 533, 534, 535, 743, 744, 745, 746, 136, 137, 138, 139, 747, 748, 749] (by decide +kernel)
set_option maxRecDepth 20000 in
theorem wsL_law_q22 : ∀ w ∈ wsL_law0_r22, w ∈ lw_tbl := in_pl [750, 157, 158, 159, 160, 169, 170, 171, 172, 174, 2, 175, 751, 752, 753, 754, 755, 757, 21, 758, 759, 761, 22, 762] (by decide +kernel)
set_option maxRecDepth 20000 in
theorem wsL_law_q23 : ∀ w ∈ wsL_law0_r23, w ∈ lw_tbl := in_pl [536, 537, 538, 539, 540, 541, 542, 763, 764, 765, 766, 184, 185, 186, 187, 767, 768, 769, 770, 201, 202, 203, 204, 205] (by decide +kernel)
set_option maxRecDepth 20000 in
theorem wsL_law_q24 : ∀ w ∈ wsL_law0_r24, w ∈ lw_tbl := in_pl [214, 215, 216, 217, 222, 223, 224, 225, 227, 228, 229, 771, 772, 773, 774, 775, 776] (by decide +kernel)
set_option maxRecDepth 20000 in
theorem wsL_law_f3 : ∀ w ∈ wsX30, w ∈ lw_tbl := in_pl [111, 113, 115, 117, 119, 121, 123, 125, 127, 129] (by decide +kernel)
set_option maxRecDepth 20000 in
theorem wsL_law_f4 : ∀ w ∈ wsX40, w ∈ lw_tbl := in_pl [565, 567, 569, 571, 573, 575, 577, 579, 581, 583, 585, 587, 589, 591, 593, 595] (by decide +kernel)
set_option maxRecDepth 20000 in
theorem wsL_law_f2 : ∀ w ∈ wsX20, w ∈ lw_tbl := in_pl [73, 75, 77] (by decide +kernel)
set_option maxRecDepth 20000 in
theorem wsL_law_f1 : ∀ w ∈ wsX10, w ∈ lw_tbl := in_pl [92, 94, 96] (by decide +kernel)
set_option maxRecDepth 20000 in
theorem wsL_law_f0 : ∀ w ∈ wsX00, w ∈ lw_tbl := in_pl [60, 62] (by decide +kernel)
theorem wsL_law_in0 : ∀ w ∈ wsL_law0, w ∈ lw_tbl := in_app (in_app (in_app (in_app (in_app (in_app (in_app wsL_law_q1 (in_app wsL_law_q2 (in_app wsL_law_q3 (in_app wsL_law_q4 (in_app wsL_law_q5 (in_app wsL_law_q6 (in_app wsL_law_q7 (in_app wsL_law_q8 (in_app wsL_law_q9 (in_app wsL_law_q10 (in_app wsL_law_q11 (in_app wsL_law_q12 (in_app wsL_law_q13 (in_app wsL_law_q14 (in_app wsL_law_q15 (in_app wsL_law_q16 (in_app wsL_law_q17 (in_app wsL_law_q18 (in_app wsL_law_q19 (in_app wsL_law_q20 (in_app wsL_law_q21 (in_app wsL_law_q22 (in_app wsL_law_q23 (wsL_law_q24)))))))))))))))))))))))) wsL_law_f3) wsL_law_f4) wsL_law_f2) wsL_law_f1) wsL_law_f0) (fun _ h => nomatch h)
theorem wsL_law_x0 : ∀ w ∈ (vx_atS RX3 40 "java/lang/IndexOutOfBoundsException" ["java/lang/RuntimeException", "java/lang/Exception"]).filter goodWord, w ∈ lw_tbl := by decide +kernel
theorem wsL_law_x1 : ∀ w ∈ (vx_atS RX3 71 "java/lang/IllegalArgumentException" ["java/lang/RuntimeException", "java/lang/Exception"]).filter goodWord, w ∈ lw_tbl := by decide +kernel
theorem wsL_law_x2 : ∀ w ∈ (vx_atS RX3 103 "java/lang/IllegalStateException" ["java/lang/RuntimeException", "java/lang/Exception"]).filter goodWord, w ∈ lw_tbl := by decide +kernel
theorem wsL_law_in : ∀ w ∈ wsL_law, w ∈ lw_tbl := fun w h => (List.mem_append.mp h).elim (fun h => (List.mem_append.mp h).elim (fun h => (List.mem_append.mp h).elim (fun h => wsL_law_in0 w h) (fun h => wsL_law_x0 w h)) (fun h => wsL_law_x1 w h)) (fun h => wsL_law_x2 w h)
theorem inlX0 : ∀ w ∈ wsX00, w ∈ wsL_law := fun _ h => List.mem_append_left _ (List.mem_append_left _ (List.mem_append_left _ (List.mem_append_left _ (List.mem_append_right _ h))))
theorem inX0 : ∀ w ∈ wsX00, w ∈ lw_tbl := fun w h => wsL_law_in w (inlX0 w h)
theorem inlX1 : ∀ w ∈ wsX10, w ∈ wsL_law := fun _ h => List.mem_append_left _ (List.mem_append_left _ (List.mem_append_left _ (List.mem_append_left _ (List.mem_append_left _ (List.mem_append_right _ h)))))
theorem inX1 : ∀ w ∈ wsX10, w ∈ lw_tbl := fun w h => wsL_law_in w (inlX1 w h)
theorem inlX2 : ∀ w ∈ wsX20, w ∈ wsL_law := fun _ h => List.mem_append_left _ (List.mem_append_left _ (List.mem_append_left _ (List.mem_append_left _ (List.mem_append_left _ (List.mem_append_left _ (List.mem_append_right _ h))))))
theorem inX2 : ∀ w ∈ wsX20, w ∈ lw_tbl := fun w h => wsL_law_in w (inlX2 w h)
theorem inlX3 : ∀ w ∈ wsX30, w ∈ wsL_law := fun _ h => List.mem_append_left _ (List.mem_append_left _ (List.mem_append_left _ (List.mem_append_left _ (List.mem_append_left _ (List.mem_append_left _ (List.mem_append_left _ (List.mem_append_left _ (List.mem_append_right _ h))))))))
theorem inX3 : ∀ w ∈ wsX30, w ∈ lw_tbl := fun w h => wsL_law_in w (inlX3 w h)
theorem inlX4 : ∀ w ∈ wsX40, w ∈ wsL_law := fun _ h => List.mem_append_left _ (List.mem_append_left _ (List.mem_append_left _ (List.mem_append_left _ (List.mem_append_left _ (List.mem_append_left _ (List.mem_append_left _ (List.mem_append_right _ h)))))))
theorem inX4 : ∀ w ∈ wsX40, w ∈ lw_tbl := fun w h => wsL_law_in w (inlX4 w h)
theorem inJ6 : ∀ w ∈ wsJ60, w ∈ lw_tbl := by decide +kernel
theorem inJ9 : ∀ w ∈ wsJ90, w ∈ lw_tbl := by decide +kernel
theorem inJ0 : ∀ w ∈ wsJ00, w ∈ lw_tbl := by decide +kernel
theorem inJ10 : ∀ w ∈ wsJ100, w ∈ lw_tbl := by decide +kernel
end
section
theorem dX0_init_0 : decode cX0_init 0 = .ok (.aload_n 0, 1) := by decide +kernel
theorem dX0_init_1 : decode cX0_init 1 = .ok (.invokespecial 1, 3) := by decide +kernel
theorem dX0_init_4 : decode cX0_init 4 = .ok (.aload_n 0, 1) := by decide +kernel
theorem dX0_init_5 : decode cX0_init 5 = .ok (.iload_n 1, 1) := by decide +kernel
theorem dX0_init_6 : decode cX0_init 6 = .ok (.ifCond .ge 7, 3) := by decide +kernel
theorem dX0_init_9 : decode cX0_init 9 = .ok (.iconst 0, 1) := by decide +kernel
theorem dX0_init_10 : decode cX0_init 10 = .ok (.goto 4, 3) := by decide +kernel
theorem dX0_init_13 : decode cX0_init 13 = .ok (.iload_n 1, 1) := by decide +kernel
theorem dX0_init_14 : decode cX0_init 14 = .ok (.newarray .int, 2) := by decide +kernel
theorem dX0_init_16 : decode cX0_init 16 = .ok (.putfield 7, 3) := by decide +kernel
theorem dX0_init_19 : decode cX0_init 19 = .ok (.return_, 1) := by decide +kernel
theorem dX0_size_0 : decode cX0_size 0 = .ok (.aload_n 0, 1) := by decide +kernel
theorem dX0_size_1 : decode cX0_size 1 = .ok (.getfield 13, 3) := by decide +kernel
theorem dX0_size_4 : decode cX0_size 4 = .ok (.ireturn, 1) := by decide +kernel
theorem dX0_room_0 : decode cX0_room 0 = .ok (.aload_n 0, 1) := by decide +kernel
theorem dX0_room_1 : decode cX0_room 1 = .ok (.getfield 7, 3) := by decide +kernel
theorem dX0_room_4 : decode cX0_room 4 = .ok (.arraylength, 1) := by decide +kernel
theorem dX0_room_5 : decode cX0_room 5 = .ok (.aload_n 0, 1) := by decide +kernel
theorem dX0_room_6 : decode cX0_room 6 = .ok (.getfield 13, 3) := by decide +kernel
theorem dX0_room_9 : decode cX0_room 9 = .ok (.isub, 1) := by decide +kernel
theorem dX0_room_10 : decode cX0_room 10 = .ok (.ireturn, 1) := by decide +kernel
theorem dX0_has_0 : decode cX0_has 0 = .ok (.iload_n 1, 1) := by decide +kernel
theorem dX0_has_1 : decode cX0_has 1 = .ok (.ifCond .lt 24, 3) := by decide +kernel
theorem dX0_has_4 : decode cX0_has 4 = .ok (.iload_n 1, 1) := by decide +kernel
theorem dX0_has_5 : decode cX0_has 5 = .ok (.aload_n 0, 1) := by decide +kernel
theorem dX0_has_6 : decode cX0_has 6 = .ok (.getfield 13, 3) := by decide +kernel
theorem dX0_has_9 : decode cX0_has 9 = .ok (.if_icmp .ge 16, 3) := by decide +kernel
theorem dX0_has_12 : decode cX0_has 12 = .ok (.iload_n 1, 1) := by decide +kernel
theorem dX0_has_13 : decode cX0_has 13 = .ok (.aload_n 0, 1) := by decide +kernel
theorem dX0_has_14 : decode cX0_has 14 = .ok (.getfield 7, 3) := by decide +kernel
theorem dX0_has_17 : decode cX0_has 17 = .ok (.arraylength, 1) := by decide +kernel
theorem dX0_has_18 : decode cX0_has 18 = .ok (.if_icmp .ge 7, 3) := by decide +kernel
theorem dX0_has_21 : decode cX0_has 21 = .ok (.iconst 1, 1) := by decide +kernel
theorem dX0_has_22 : decode cX0_has 22 = .ok (.goto 4, 3) := by decide +kernel
theorem dX0_has_25 : decode cX0_has 25 = .ok (.iconst 0, 1) := by decide +kernel
theorem dX0_has_26 : decode cX0_has 26 = .ok (.ireturn, 1) := by decide +kernel
set_option maxRecDepth 20000 in
theorem ggX0_at_X0_has : GoodIn wsX0_at wsX0_has := goodIn_r _ [6, 7, 1, 8, 9] (by decide +kernel) (by decide +kernel)
set_option maxRecDepth 20000 in
theorem gX0_at_X0_has : GoodIn wsX0_at (wsV RX0 17 RX0 yX0_has wsX0_has) := goodIn_app (goodIn_of _ (by decide +kernel)) ggX0_at_X0_has
theorem dX0_at_0 : decode cX0_at 0 = .ok (.aload_n 0, 1) := by decide +kernel
theorem dX0_at_1 : decode cX0_at 1 = .ok (.iload_n 1, 1) := by decide +kernel
theorem dX0_at_2 : decode cX0_at 2 = .ok (.invokevirtual 17, 3) := by decide +kernel
theorem dX0_at_5 : decode cX0_at 5 = .ok (.ifCond .eq 12, 3) := by decide +kernel
theorem dX0_at_8 : decode cX0_at 8 = .ok (.aload_n 0, 1) := by decide +kernel
theorem dX0_at_9 : decode cX0_at 9 = .ok (.getfield 7, 3) := by decide +kernel
theorem dX0_at_12 : decode cX0_at 12 = .ok (.iload_n 1, 1) := by decide +kernel
theorem dX0_at_13 : decode cX0_at 13 = .ok (.iaload, 1) := by decide +kernel
theorem dX0_at_14 : decode cX0_at 14 = .ok (.goto 4, 3) := by decide +kernel
theorem dX0_at_17 : decode cX0_at 17 = .ok (.iconst 0, 1) := by decide +kernel
theorem dX0_at_18 : decode cX0_at 18 = .ok (.ireturn, 1) := by decide +kernel
set_option maxRecDepth 20000 in
theorem ggX0_change_X0_has : GoodIn wsX0_change wsX0_has := goodIn_r _ [6, 7, 1, 8, 9] (by decide +kernel) (by decide +kernel)
set_option maxRecDepth 20000 in
theorem gX0_change_X0_has : GoodIn wsX0_change (wsV RX0 17 RX0 yX0_has wsX0_has) := goodIn_app (goodIn_of _ (by decide +kernel)) ggX0_change_X0_has
theorem dX0_change_0 : decode cX0_change 0 = .ok (.aload_n 0, 1) := by decide +kernel
theorem dX0_change_1 : decode cX0_change 1 = .ok (.iload_n 1, 1) := by decide +kernel
theorem dX0_change_2 : decode cX0_change 2 = .ok (.invokevirtual 17, 3) := by decide +kernel
theorem dX0_change_5 : decode cX0_change 5 = .ok (.ifCond .eq 10, 3) := by decide +kernel
theorem dX0_change_8 : decode cX0_change 8 = .ok (.aload_n 0, 1) := by decide +kernel
theorem dX0_change_9 : decode cX0_change 9 = .ok (.getfield 7, 3) := by decide +kernel
theorem dX0_change_12 : decode cX0_change 12 = .ok (.iload_n 1, 1) := by decide +kernel
theorem dX0_change_13 : decode cX0_change 13 = .ok (.iload_n 2, 1) := by decide +kernel
theorem dX0_change_14 : decode cX0_change 14 = .ok (.iastore, 1) := by decide +kernel
theorem dX0_change_15 : decode cX0_change 15 = .ok (.return_, 1) := by decide +kernel
theorem dX0_add_0 : decode cX0_add 0 = .ok (.aload_n 0, 1) := by decide +kernel
theorem dX0_add_1 : decode cX0_add 1 = .ok (.getfield 13, 3) := by decide +kernel
theorem dX0_add_4 : decode cX0_add 4 = .ok (.ifCond .lt 15, 3) := by decide +kernel
theorem dX0_add_7 : decode cX0_add 7 = .ok (.aload_n 0, 1) := by decide +kernel
theorem dX0_add_8 : decode cX0_add 8 = .ok (.getfield 13, 3) := by decide +kernel
theorem dX0_add_11 : decode cX0_add 11 = .ok (.aload_n 0, 1) := by decide +kernel
theorem dX0_add_12 : decode cX0_add 12 = .ok (.getfield 7, 3) := by decide +kernel
theorem dX0_add_15 : decode cX0_add 15 = .ok (.arraylength, 1) := by decide +kernel
theorem dX0_add_16 : decode cX0_add 16 = .ok (.if_icmp .lt 5, 3) := by decide +kernel
theorem dX0_add_19 : decode cX0_add 19 = .ok (.iconst 0, 1) := by decide +kernel
theorem dX0_add_20 : decode cX0_add 20 = .ok (.ireturn, 1) := by decide +kernel
theorem dX0_add_21 : decode cX0_add 21 = .ok (.aload_n 0, 1) := by decide +kernel
theorem dX0_add_22 : decode cX0_add 22 = .ok (.getfield 7, 3) := by decide +kernel
theorem dX0_add_25 : decode cX0_add 25 = .ok (.aload_n 0, 1) := by decide +kernel
theorem dX0_add_26 : decode cX0_add 26 = .ok (.getfield 13, 3) := by decide +kernel
theorem dX0_add_29 : decode cX0_add 29 = .ok (.iload_n 1, 1) := by decide +kernel
theorem dX0_add_30 : decode cX0_add 30 = .ok (.iastore, 1) := by decide +kernel
theorem dX0_add_31 : decode cX0_add 31 = .ok (.aload_n 0, 1) := by decide +kernel
theorem dX0_add_32 : decode cX0_add 32 = .ok (.dup, 1) := by decide +kernel
theorem dX0_add_33 : decode cX0_add 33 = .ok (.getfield 13, 3) := by decide +kernel
theorem dX0_add_36 : decode cX0_add 36 = .ok (.iconst 1, 1) := by decide +kernel
theorem dX0_add_37 : decode cX0_add 37 = .ok (.iadd, 1) := by decide +kernel
theorem dX0_add_38 : decode cX0_add 38 = .ok (.putfield 13, 3) := by decide +kernel
theorem dX0_add_41 : decode cX0_add 41 = .ok (.iconst 1, 1) := by decide +kernel
theorem dX0_add_42 : decode cX0_add 42 = .ok (.ireturn, 1) := by decide +kernel
theorem dX0_clear_0 : decode cX0_clear 0 = .ok (.aload_n 0, 1) := by decide +kernel
theorem dX0_clear_1 : decode cX0_clear 1 = .ok (.iconst 0, 1) := by decide +kernel
theorem dX0_clear_2 : decode cX0_clear 2 = .ok (.putfield 13, 3) := by decide +kernel
theorem dX0_clear_5 : decode cX0_clear 5 = .ok (.return_, 1) := by decide +kernel
set_option maxRecDepth 20000 in
theorem ggX1_init_X0_init : GoodIn wsX1_init wsX0_init := goodIn_r _ [11, 12, 2, 3, 13, 14, 18, 19] (by decide +kernel) (by decide +kernel)
set_option maxRecDepth 20000 in
theorem gX1_init_X0_init : GoodIn wsX1_init (wsX0_init) := ggX1_init_X0_init
theorem dX1_init_0 : decode cX1_init 0 = .ok (.aload_n 0, 1) := by decide +kernel
theorem dX1_init_1 : decode cX1_init 1 = .ok (.invokespecial 3, 3) := by decide +kernel
theorem dX1_init_4 : decode cX1_init 4 = .ok (.aload_n 0, 1) := by decide +kernel
theorem dX1_init_5 : decode cX1_init 5 = .ok (.bipush 20, 2) := by decide +kernel
theorem dX1_init_7 : decode cX1_init 7 = .ok (.anewarray 9, 3) := by decide +kernel
theorem dX1_init_10 : decode cX1_init 10 = .ok (.putfield 11, 3) := by decide +kernel
theorem dX1_init_13 : decode cX1_init 13 = .ok (.aload_n 0, 1) := by decide +kernel
theorem dX1_init_14 : decode cX1_init 14 = .ok (.iconst 1, 1) := by decide +kernel
theorem dX1_init_15 : decode cX1_init 15 = .ok (.putfield 17, 3) := by decide +kernel
theorem dX1_init_18 : decode cX1_init 18 = .ok (.iconst 0, 1) := by decide +kernel
theorem dX1_init_19 : decode cX1_init 19 = .ok (.istore_n 1, 1) := by decide +kernel
theorem dX1_init_20 : decode cX1_init 20 = .ok (.iload_n 1, 1) := by decide +kernel
theorem dX1_init_21 : decode cX1_init 21 = .ok (.aload_n 0, 1) := by decide +kernel
theorem dX1_init_22 : decode cX1_init 22 = .ok (.getfield 11, 3) := by decide +kernel
theorem dX1_init_25 : decode cX1_init 25 = .ok (.arraylength, 1) := by decide +kernel
theorem dX1_init_26 : decode cX1_init 26 = .ok (.if_icmp .ge 24, 3) := by decide +kernel
theorem dX1_init_29 : decode cX1_init 29 = .ok (.aload_n 0, 1) := by decide +kernel
theorem dX1_init_30 : decode cX1_init 30 = .ok (.getfield 11, 3) := by decide +kernel
theorem dX1_init_33 : decode cX1_init 33 = .ok (.iload_n 1, 1) := by decide +kernel
theorem dX1_init_34 : decode cX1_init 34 = .ok (.new 9, 3) := by decide +kernel
theorem dX1_init_37 : decode cX1_init 37 = .ok (.dup, 1) := by decide +kernel
theorem dX1_init_38 : decode cX1_init 38 = .ok (.bipush 40, 2) := by decide +kernel
theorem dX1_init_40 : decode cX1_init 40 = .ok (.invokespecial 21, 3) := by decide +kernel
theorem dX1_init_43 : decode cX1_init 43 = .ok (.aastore, 1) := by decide +kernel
theorem dX1_init_44 : decode cX1_init 44 = .ok (.iinc 1 1, 3) := by decide +kernel
theorem dX1_init_47 : decode cX1_init 47 = .ok (.goto (-27), 3) := by decide +kernel
theorem dX1_init_50 : decode cX1_init 50 = .ok (.return_, 1) := by decide +kernel
theorem dX1_lines_0 : decode cX1_lines 0 = .ok (.aload_n 0, 1) := by decide +kernel
theorem dX1_lines_1 : decode cX1_lines 1 = .ok (.getfield 17, 3) := by decide +kernel
theorem dX1_lines_4 : decode cX1_lines 4 = .ok (.ireturn, 1) := by decide +kernel
theorem dX1_row_0 : decode cX1_row 0 = .ok (.iload_n 1, 1) := by decide +kernel
theorem dX1_row_1 : decode cX1_row 1 = .ok (.ifCond .lt 11, 3) := by decide +kernel
theorem dX1_row_4 : decode cX1_row 4 = .ok (.iload_n 1, 1) := by decide +kernel
theorem dX1_row_5 : decode cX1_row 5 = .ok (.aload_n 0, 1) := by decide +kernel
theorem dX1_row_6 : decode cX1_row 6 = .ok (.getfield 17, 3) := by decide +kernel
theorem dX1_row_9 : decode cX1_row 9 = .ok (.if_icmp .lt 5, 3) := by decide +kernel
theorem dX1_row_12 : decode cX1_row 12 = .ok (.aconst_null, 1) := by decide +kernel
theorem dX1_row_13 : decode cX1_row 13 = .ok (.areturn, 1) := by decide +kernel
theorem dX1_row_14 : decode cX1_row 14 = .ok (.aload_n 0, 1) := by decide +kernel
theorem dX1_row_15 : decode cX1_row 15 = .ok (.getfield 24, 3) := by decide +kernel
theorem dX1_row_18 : decode cX1_row 18 = .ok (.iload_n 1, 1) := by decide +kernel
theorem dX1_row_19 : decode cX1_row 19 = .ok (.iadd, 1) := by decide +kernel
theorem dX1_row_20 : decode cX1_row 20 = .ok (.bipush 20, 2) := by decide +kernel
theorem dX1_row_22 : decode cX1_row 22 = .ok (.irem, 1) := by decide +kernel
theorem dX1_row_23 : decode cX1_row 23 = .ok (.istore_n 2, 1) := by decide +kernel
theorem dX1_row_24 : decode cX1_row 24 = .ok (.iload_n 2, 1) := by decide +kernel
theorem dX1_row_25 : decode cX1_row 25 = .ok (.ifCond .lt 21, 3) := by decide +kernel
theorem dX1_row_28 : decode cX1_row 28 = .ok (.iload_n 2, 1) := by decide +kernel
theorem dX1_row_29 : decode cX1_row 29 = .ok (.aload_n 0, 1) := by decide +kernel
theorem dX1_row_30 : decode cX1_row 30 = .ok (.getfield 11, 3) := by decide +kernel
theorem dX1_row_33 : decode cX1_row 33 = .ok (.arraylength, 1) := by decide +kernel
theorem dX1_row_34 : decode cX1_row 34 = .ok (.if_icmp .ge 12, 3) := by decide +kernel
theorem dX1_row_37 : decode cX1_row 37 = .ok (.aload_n 0, 1) := by decide +kernel
theorem dX1_row_38 : decode cX1_row 38 = .ok (.getfield 11, 3) := by decide +kernel
theorem dX1_row_41 : decode cX1_row 41 = .ok (.iload_n 2, 1) := by decide +kernel
theorem dX1_row_42 : decode cX1_row 42 = .ok (.aaload, 1) := by decide +kernel
theorem dX1_row_43 : decode cX1_row 43 = .ok (.goto 4, 3) := by decide +kernel
theorem dX1_row_46 : decode cX1_row 46 = .ok (.aconst_null, 1) := by decide +kernel
theorem dX1_row_47 : decode cX1_row 47 = .ok (.areturn, 1) := by decide +kernel
set_option maxRecDepth 20000 in
theorem ggX1_add_X1_row : GoodIn wsX1_add wsX1_row := goodIn_r _ [6, 1, 7, 8, 16, 17, 18] (by decide +kernel) (by decide +kernel)
set_option maxRecDepth 20000 in
theorem gX1_add_X1_row : GoodIn wsX1_add (wsV RX1 27 RX1 yX1_row wsX1_row) := goodIn_app (goodIn_of _ (by decide +kernel)) ggX1_add_X1_row
set_option maxRecDepth 20000 in
theorem ggX1_add_X0_add : GoodIn wsX1_add wsX0_add := goodIn_r _ [13, 14, 15, 19, 20] (by decide +kernel) (by decide +kernel)
set_option maxRecDepth 20000 in
theorem gX1_add_X0_add : GoodIn wsX1_add (wsV RX1 31 RX0 yX0_add wsX0_add) := goodIn_app (goodIn_of _ (by decide +kernel)) ggX1_add_X0_add
theorem dX1_add_0 : decode cX1_add 0 = .ok (.aload_n 0, 1) := by decide +kernel
theorem dX1_add_1 : decode cX1_add 1 = .ok (.aload_n 0, 1) := by decide +kernel
theorem dX1_add_2 : decode cX1_add 2 = .ok (.getfield 17, 3) := by decide +kernel
theorem dX1_add_5 : decode cX1_add 5 = .ok (.iconst 1, 1) := by decide +kernel
theorem dX1_add_6 : decode cX1_add 6 = .ok (.isub, 1) := by decide +kernel
theorem dX1_add_7 : decode cX1_add 7 = .ok (.invokevirtual 27, 3) := by decide +kernel
theorem dX1_add_10 : decode cX1_add 10 = .ok (.astore_n 2, 1) := by decide +kernel
theorem dX1_add_11 : decode cX1_add 11 = .ok (.aload_n 2, 1) := by decide +kernel
theorem dX1_add_12 : decode cX1_add 12 = .ok (.ifnull 15, 3) := by decide +kernel
theorem dX1_add_15 : decode cX1_add 15 = .ok (.aload_n 2, 1) := by decide +kernel
theorem dX1_add_16 : decode cX1_add 16 = .ok (.iload_n 1, 1) := by decide +kernel
theorem dX1_add_17 : decode cX1_add 17 = .ok (.invokevirtual 31, 3) := by decide +kernel
theorem dX1_add_20 : decode cX1_add 20 = .ok (.ifCond .eq 7, 3) := by decide +kernel
theorem dX1_add_23 : decode cX1_add 23 = .ok (.iconst 1, 1) := by decide +kernel
theorem dX1_add_24 : decode cX1_add 24 = .ok (.goto 4, 3) := by decide +kernel
theorem dX1_add_27 : decode cX1_add 27 = .ok (.iconst 0, 1) := by decide +kernel
theorem dX1_add_28 : decode cX1_add 28 = .ok (.ireturn, 1) := by decide +kernel
set_option maxRecDepth 20000 in
theorem ggX1_beginLine_X1_row : GoodIn wsX1_beginLine wsX1_row := goodIn_r _ [7, 1, 2, 8, 15, 16, 17] (by decide +kernel) (by decide +kernel)
set_option maxRecDepth 20000 in
theorem gX1_beginLine_X1_row : GoodIn wsX1_beginLine (wsV RX1 27 RX1 yX1_row wsX1_row) := goodIn_app (goodIn_of _ (by decide +kernel)) ggX1_beginLine_X1_row
set_option maxRecDepth 20000 in
theorem ggX1_beginLine_X0_clear : GoodIn wsX1_beginLine wsX0_clear := goodIn_r _ [13, 14, 18, 19] (by decide +kernel) (by decide +kernel)
set_option maxRecDepth 20000 in
theorem gX1_beginLine_X0_clear : GoodIn wsX1_beginLine (wsV RX1 35 RX0 yX0_clear wsX0_clear) := goodIn_app (goodIn_of _ (by decide +kernel)) ggX1_beginLine_X0_clear
theorem dX1_beginLine_0 : decode cX1_beginLine 0 = .ok (.aload_n 0, 1) := by decide +kernel
theorem dX1_beginLine_1 : decode cX1_beginLine 1 = .ok (.getfield 17, 3) := by decide +kernel
theorem dX1_beginLine_4 : decode cX1_beginLine 4 = .ok (.bipush 20, 2) := by decide +kernel
theorem dX1_beginLine_6 : decode cX1_beginLine 6 = .ok (.if_icmp .ge 16, 3) := by decide +kernel
theorem dX1_beginLine_9 : decode cX1_beginLine 9 = .ok (.aload_n 0, 1) := by decide +kernel
theorem dX1_beginLine_10 : decode cX1_beginLine 10 = .ok (.dup, 1) := by decide +kernel
theorem dX1_beginLine_11 : decode cX1_beginLine 11 = .ok (.getfield 17, 3) := by decide +kernel
theorem dX1_beginLine_14 : decode cX1_beginLine 14 = .ok (.iconst 1, 1) := by decide +kernel
theorem dX1_beginLine_15 : decode cX1_beginLine 15 = .ok (.iadd, 1) := by decide +kernel
theorem dX1_beginLine_16 : decode cX1_beginLine 16 = .ok (.putfield 17, 3) := by decide +kernel
theorem dX1_beginLine_19 : decode cX1_beginLine 19 = .ok (.goto 16, 3) := by decide +kernel
theorem dX1_beginLine_22 : decode cX1_beginLine 22 = .ok (.aload_n 0, 1) := by decide +kernel
theorem dX1_beginLine_23 : decode cX1_beginLine 23 = .ok (.aload_n 0, 1) := by decide +kernel
theorem dX1_beginLine_24 : decode cX1_beginLine 24 = .ok (.getfield 24, 3) := by decide +kernel
theorem dX1_beginLine_27 : decode cX1_beginLine 27 = .ok (.iconst 1, 1) := by decide +kernel
theorem dX1_beginLine_28 : decode cX1_beginLine 28 = .ok (.iadd, 1) := by decide +kernel
theorem dX1_beginLine_29 : decode cX1_beginLine 29 = .ok (.bipush 20, 2) := by decide +kernel
theorem dX1_beginLine_31 : decode cX1_beginLine 31 = .ok (.irem, 1) := by decide +kernel
theorem dX1_beginLine_32 : decode cX1_beginLine 32 = .ok (.putfield 24, 3) := by decide +kernel
theorem dX1_beginLine_35 : decode cX1_beginLine 35 = .ok (.aload_n 0, 1) := by decide +kernel
theorem dX1_beginLine_36 : decode cX1_beginLine 36 = .ok (.aload_n 0, 1) := by decide +kernel
theorem dX1_beginLine_37 : decode cX1_beginLine 37 = .ok (.getfield 17, 3) := by decide +kernel
theorem dX1_beginLine_40 : decode cX1_beginLine 40 = .ok (.iconst 1, 1) := by decide +kernel
theorem dX1_beginLine_41 : decode cX1_beginLine 41 = .ok (.isub, 1) := by decide +kernel
theorem dX1_beginLine_42 : decode cX1_beginLine 42 = .ok (.invokevirtual 27, 3) := by decide +kernel
theorem dX1_beginLine_45 : decode cX1_beginLine 45 = .ok (.astore_n 1, 1) := by decide +kernel
theorem dX1_beginLine_46 : decode cX1_beginLine 46 = .ok (.aload_n 1, 1) := by decide +kernel
theorem dX1_beginLine_47 : decode cX1_beginLine 47 = .ok (.ifnull 7, 3) := by decide +kernel
theorem dX1_beginLine_50 : decode cX1_beginLine 50 = .ok (.aload_n 1, 1) := by decide +kernel
theorem dX1_beginLine_51 : decode cX1_beginLine 51 = .ok (.invokevirtual 35, 3) := by decide +kernel
theorem dX1_beginLine_54 : decode cX1_beginLine 54 = .ok (.return_, 1) := by decide +kernel
set_option maxRecDepth 20000 in
theorem ggX1_characters_X1_row : GoodIn wsX1_characters wsX1_row := goodIn_r _ [6, 1, 7, 8, 15, 16, 17] (by decide +kernel) (by decide +kernel)
set_option maxRecDepth 20000 in
theorem gX1_characters_X1_row : GoodIn wsX1_characters (wsV RX1 27 RX1 yX1_row wsX1_row) := goodIn_app (goodIn_of _ (by decide +kernel)) ggX1_characters_X1_row
set_option maxRecDepth 20000 in
theorem ggX1_characters_X0_size : GoodIn wsX1_characters wsX0_size := goodIn_r _ [13, 14, 18, 19] (by decide +kernel) (by decide +kernel)
set_option maxRecDepth 20000 in
theorem gX1_characters_X0_size : GoodIn wsX1_characters (wsV RX1 38 RX0 yX0_size wsX0_size) := goodIn_app (goodIn_of _ (by decide +kernel)) ggX1_characters_X0_size
theorem dX1_characters_0 : decode cX1_characters 0 = .ok (.iconst 0, 1) := by decide +kernel
theorem dX1_characters_1 : decode cX1_characters 1 = .ok (.istore_n 1, 1) := by decide +kernel
theorem dX1_characters_2 : decode cX1_characters 2 = .ok (.iconst 0, 1) := by decide +kernel
theorem dX1_characters_3 : decode cX1_characters 3 = .ok (.istore_n 2, 1) := by decide +kernel
theorem dX1_characters_4 : decode cX1_characters 4 = .ok (.iload_n 2, 1) := by decide +kernel
theorem dX1_characters_5 : decode cX1_characters 5 = .ok (.aload_n 0, 1) := by decide +kernel
theorem dX1_characters_6 : decode cX1_characters 6 = .ok (.getfield 17, 3) := by decide +kernel
theorem dX1_characters_9 : decode cX1_characters 9 = .ok (.if_icmp .ge 26, 3) := by decide +kernel
theorem dX1_characters_12 : decode cX1_characters 12 = .ok (.aload_n 0, 1) := by decide +kernel
theorem dX1_characters_13 : decode cX1_characters 13 = .ok (.iload_n 2, 1) := by decide +kernel
theorem dX1_characters_14 : decode cX1_characters 14 = .ok (.invokevirtual 27, 3) := by decide +kernel
theorem dX1_characters_17 : decode cX1_characters 17 = .ok (.astore_n 3, 1) := by decide +kernel
theorem dX1_characters_18 : decode cX1_characters 18 = .ok (.aload_n 3, 1) := by decide +kernel
theorem dX1_characters_19 : decode cX1_characters 19 = .ok (.ifnull 10, 3) := by decide +kernel
theorem dX1_characters_22 : decode cX1_characters 22 = .ok (.iload_n 1, 1) := by decide +kernel
theorem dX1_characters_23 : decode cX1_characters 23 = .ok (.aload_n 3, 1) := by decide +kernel
theorem dX1_characters_24 : decode cX1_characters 24 = .ok (.invokevirtual 38, 3) := by decide +kernel
theorem dX1_characters_27 : decode cX1_characters 27 = .ok (.iadd, 1) := by decide +kernel
theorem dX1_characters_28 : decode cX1_characters 28 = .ok (.istore_n 1, 1) := by decide +kernel
theorem dX1_characters_29 : decode cX1_characters 29 = .ok (.iinc 2 1, 3) := by decide +kernel
theorem dX1_characters_32 : decode cX1_characters 32 = .ok (.goto (-28), 3) := by decide +kernel
theorem dX1_characters_35 : decode cX1_characters 35 = .ok (.iload_n 1, 1) := by decide +kernel
theorem dX1_characters_36 : decode cX1_characters 36 = .ok (.ireturn, 1) := by decide +kernel
set_option maxRecDepth 20000 in
theorem ggX2_init_X0_init : GoodIn wsX2_init wsX0_init := goodIn_r _ [11, 12, 2, 3, 13, 14, 20, 21] (by decide +kernel) (by decide +kernel)
set_option maxRecDepth 20000 in
theorem gX2_init_X0_init : GoodIn wsX2_init (wsX0_init) := ggX2_init_X0_init
set_option maxRecDepth 20000 in
theorem ggX2_init_X0_add : GoodIn wsX2_init wsX0_add := goodIn_r _ [18, 19, 14, 20, 21] (by decide +kernel) (by decide +kernel)
set_option maxRecDepth 20000 in
theorem gX2_init_X0_add : GoodIn wsX2_init (wsV RX2 23 RX0 yX0_add wsX0_add) := goodIn_app (goodIn_of _ (by decide +kernel)) ggX2_init_X0_add
theorem dX2_init_0 : decode cX2_init 0 = .ok (.aload_n 0, 1) := by decide +kernel
theorem dX2_init_1 : decode cX2_init 1 = .ok (.invokespecial 3, 3) := by decide +kernel
theorem dX2_init_4 : decode cX2_init 4 = .ok (.aload_n 0, 1) := by decide +kernel
theorem dX2_init_5 : decode cX2_init 5 = .ok (.new 9, 3) := by decide +kernel
theorem dX2_init_8 : decode cX2_init 8 = .ok (.dup, 1) := by decide +kernel
theorem dX2_init_9 : decode cX2_init 9 = .ok (.bipush 16, 2) := by decide +kernel
theorem dX2_init_11 : decode cX2_init 11 = .ok (.invokespecial 11, 3) := by decide +kernel
theorem dX2_init_14 : decode cX2_init 14 = .ok (.putfield 14, 3) := by decide +kernel
theorem dX2_init_17 : decode cX2_init 17 = .ok (.aload_n 0, 1) := by decide +kernel
theorem dX2_init_18 : decode cX2_init 18 = .ok (.new 9, 3) := by decide +kernel
theorem dX2_init_21 : decode cX2_init 21 = .ok (.dup, 1) := by decide +kernel
theorem dX2_init_22 : decode cX2_init 22 = .ok (.bipush 16, 2) := by decide +kernel
theorem dX2_init_24 : decode cX2_init 24 = .ok (.invokespecial 11, 3) := by decide +kernel
theorem dX2_init_27 : decode cX2_init 27 = .ok (.putfield 20, 3) := by decide +kernel
theorem dX2_init_30 : decode cX2_init 30 = .ok (.iconst 0, 1) := by decide +kernel
theorem dX2_init_31 : decode cX2_init 31 = .ok (.istore_n 1, 1) := by decide +kernel
theorem dX2_init_32 : decode cX2_init 32 = .ok (.iload_n 1, 1) := by decide +kernel
theorem dX2_init_33 : decode cX2_init 33 = .ok (.bipush 16, 2) := by decide +kernel
theorem dX2_init_35 : decode cX2_init 35 = .ok (.if_icmp .ge 27, 3) := by decide +kernel
theorem dX2_init_38 : decode cX2_init 38 = .ok (.aload_n 0, 1) := by decide +kernel
theorem dX2_init_39 : decode cX2_init 39 = .ok (.getfield 14, 3) := by decide +kernel
theorem dX2_init_42 : decode cX2_init 42 = .ok (.iconst 0, 1) := by decide +kernel
theorem dX2_init_43 : decode cX2_init 43 = .ok (.invokevirtual 23, 3) := by decide +kernel
theorem dX2_init_46 : decode cX2_init 46 = .ok (.pop, 1) := by decide +kernel
theorem dX2_init_47 : decode cX2_init 47 = .ok (.aload_n 0, 1) := by decide +kernel
theorem dX2_init_48 : decode cX2_init 48 = .ok (.getfield 20, 3) := by decide +kernel
theorem dX2_init_51 : decode cX2_init 51 = .ok (.iconst 0, 1) := by decide +kernel
theorem dX2_init_52 : decode cX2_init 52 = .ok (.invokevirtual 23, 3) := by decide +kernel
theorem dX2_init_55 : decode cX2_init 55 = .ok (.pop, 1) := by decide +kernel
theorem dX2_init_56 : decode cX2_init 56 = .ok (.iinc 1 1, 3) := by decide +kernel
theorem dX2_init_59 : decode cX2_init 59 = .ok (.goto (-27), 3) := by decide +kernel
theorem dX2_init_62 : decode cX2_init 62 = .ok (.return_, 1) := by decide +kernel
theorem dX2_play_0 : decode cX2_play 0 = .ok (.aload_n 0, 1) := by decide +kernel
theorem dX2_play_1 : decode cX2_play 1 = .ok (.getfield 27, 3) := by decide +kernel
theorem dX2_play_4 : decode cX2_play 4 = .ok (.ireturn, 1) := by decide +kernel
theorem dX2_changePlay_0 : decode cX2_changePlay 0 = .ok (.aload_n 0, 1) := by decide +kernel
theorem dX2_changePlay_1 : decode cX2_changePlay 1 = .ok (.iload_n 1, 1) := by decide +kernel
theorem dX2_changePlay_2 : decode cX2_changePlay 2 = .ok (.putfield 27, 3) := by decide +kernel
theorem dX2_changePlay_5 : decode cX2_changePlay 5 = .ok (.return_, 1) := by decide +kernel
set_option maxRecDepth 20000 in
theorem ggX2_lateAt_X0_at : GoodIn wsX2_lateAt wsX0_at := goodIn_r _ [6, 7, 8, 9, 10, 5, 11, 12, 16, 17] (by decide +kernel) (by decide +kernel)
set_option maxRecDepth 20000 in
theorem gX2_lateAt_X0_at : GoodIn wsX2_lateAt (wsV RX2 31 RX0 yX0_at wsX0_at) := goodIn_app (goodIn_of _ (by decide +kernel)) ggX2_lateAt_X0_at
theorem dX2_lateAt_0 : decode cX2_lateAt 0 = .ok (.aload_n 0, 1) := by decide +kernel
theorem dX2_lateAt_1 : decode cX2_lateAt 1 = .ok (.getfield 14, 3) := by decide +kernel
theorem dX2_lateAt_4 : decode cX2_lateAt 4 = .ok (.iload_n 1, 1) := by decide +kernel
theorem dX2_lateAt_5 : decode cX2_lateAt 5 = .ok (.invokevirtual 31, 3) := by decide +kernel
theorem dX2_lateAt_8 : decode cX2_lateAt 8 = .ok (.ireturn, 1) := by decide +kernel
set_option maxRecDepth 20000 in
theorem ggX2_garbledAt_X0_at : GoodIn wsX2_garbledAt wsX0_at := goodIn_r _ [6, 7, 8, 9, 10, 5, 11, 12, 16, 17] (by decide +kernel) (by decide +kernel)
set_option maxRecDepth 20000 in
theorem gX2_garbledAt_X0_at : GoodIn wsX2_garbledAt (wsV RX2 31 RX0 yX0_at wsX0_at) := goodIn_app (goodIn_of _ (by decide +kernel)) ggX2_garbledAt_X0_at
theorem dX2_garbledAt_0 : decode cX2_garbledAt 0 = .ok (.aload_n 0, 1) := by decide +kernel
theorem dX2_garbledAt_1 : decode cX2_garbledAt 1 = .ok (.getfield 20, 3) := by decide +kernel
theorem dX2_garbledAt_4 : decode cX2_garbledAt 4 = .ok (.iload_n 1, 1) := by decide +kernel
theorem dX2_garbledAt_5 : decode cX2_garbledAt 5 = .ok (.invokevirtual 31, 3) := by decide +kernel
theorem dX2_garbledAt_8 : decode cX2_garbledAt 8 = .ok (.ireturn, 1) := by decide +kernel
set_option maxRecDepth 20000 in
theorem ggX2_change_X0_change : GoodIn wsX2_change wsX0_change := goodIn_r _ [7, 8, 9, 10, 11, 6, 12, 13, 17, 18] (by decide +kernel) (by decide +kernel)
set_option maxRecDepth 20000 in
theorem gX2_change_X0_change : GoodIn wsX2_change (wsV RX2 35 RX0 yX0_change wsX0_change) := goodIn_app (goodIn_of _ (by decide +kernel)) ggX2_change_X0_change
theorem dX2_change_0 : decode cX2_change 0 = .ok (.aload_n 0, 1) := by decide +kernel
theorem dX2_change_1 : decode cX2_change 1 = .ok (.getfield 14, 3) := by decide +kernel
theorem dX2_change_4 : decode cX2_change 4 = .ok (.iload_n 1, 1) := by decide +kernel
theorem dX2_change_5 : decode cX2_change 5 = .ok (.iload_n 2, 1) := by decide +kernel
theorem dX2_change_6 : decode cX2_change 6 = .ok (.invokevirtual 35, 3) := by decide +kernel
theorem dX2_change_9 : decode cX2_change 9 = .ok (.aload_n 0, 1) := by decide +kernel
theorem dX2_change_10 : decode cX2_change 10 = .ok (.getfield 20, 3) := by decide +kernel
theorem dX2_change_13 : decode cX2_change 13 = .ok (.iload_n 1, 1) := by decide +kernel
theorem dX2_change_14 : decode cX2_change 14 = .ok (.iload_n 3, 1) := by decide +kernel
theorem dX2_change_15 : decode cX2_change 15 = .ok (.invokevirtual 35, 3) := by decide +kernel
theorem dX2_change_18 : decode cX2_change 18 = .ok (.return_, 1) := by decide +kernel
set_option maxRecDepth 20000 in
theorem ggX2_readAs_X0_at : GoodIn wsX2_readAs wsX0_at := goodIn_r _ [8, 9, 10, 11, 12, 7, 13, 14, 18, 19] (by decide +kernel) (by decide +kernel)
set_option maxRecDepth 20000 in
theorem gX2_readAs_X0_at : GoodIn wsX2_readAs (wsV RX2 31 RX0 yX0_at wsX0_at) := goodIn_app (goodIn_of _ (by decide +kernel)) ggX2_readAs_X0_at
theorem dX2_readAs_0 : decode cX2_readAs 0 = .ok (.iload_n 2, 1) := by decide +kernel
theorem dX2_readAs_1 : decode cX2_readAs 1 = .ok (.bipush 16, 2) := by decide +kernel
theorem dX2_readAs_3 : decode cX2_readAs 3 = .ok (.irem, 1) := by decide +kernel
theorem dX2_readAs_4 : decode cX2_readAs 4 = .ok (.istore_n 3, 1) := by decide +kernel
theorem dX2_readAs_5 : decode cX2_readAs 5 = .ok (.iload_n 1, 1) := by decide +kernel
theorem dX2_readAs_6 : decode cX2_readAs 6 = .ok (.aload_n 0, 1) := by decide +kernel
theorem dX2_readAs_7 : decode cX2_readAs 7 = .ok (.getfield 20, 3) := by decide +kernel
theorem dX2_readAs_10 : decode cX2_readAs 10 = .ok (.iload_n 3, 1) := by decide +kernel
theorem dX2_readAs_11 : decode cX2_readAs 11 = .ok (.invokevirtual 31, 3) := by decide +kernel
theorem dX2_readAs_14 : decode cX2_readAs 14 = .ok (.ixor, 1) := by decide +kernel
theorem dX2_readAs_15 : decode cX2_readAs 15 = .ok (.istore 4, 2) := by decide +kernel
theorem dX2_readAs_17 : decode cX2_readAs 17 = .ok (.aload_n 0, 1) := by decide +kernel
theorem dX2_readAs_18 : decode cX2_readAs 18 = .ok (.getfield 14, 3) := by decide +kernel
theorem dX2_readAs_21 : decode cX2_readAs 21 = .ok (.iload_n 3, 1) := by decide +kernel
theorem dX2_readAs_22 : decode cX2_readAs 22 = .ok (.invokevirtual 31, 3) := by decide +kernel
theorem dX2_readAs_25 : decode cX2_readAs 25 = .ok (.istore 5, 2) := by decide +kernel
theorem dX2_readAs_27 : decode cX2_readAs 27 = .ok (.iload 5, 2) := by decide +kernel
theorem dX2_readAs_29 : decode cX2_readAs 29 = .ok (.aload_n 0, 1) := by decide +kernel
theorem dX2_readAs_30 : decode cX2_readAs 30 = .ok (.getfield 27, 3) := by decide +kernel
theorem dX2_readAs_33 : decode cX2_readAs 33 = .ok (.if_icmp .le 8, 3) := by decide +kernel
theorem dX2_readAs_36 : decode cX2_readAs 36 = .ok (.iload 4, 2) := by decide +kernel
theorem dX2_readAs_38 : decode cX2_readAs 38 = .ok (.iconst 1, 1) := by decide +kernel
theorem dX2_readAs_39 : decode cX2_readAs 39 = .ok (.ishr, 1) := by decide +kernel
theorem dX2_readAs_40 : decode cX2_readAs 40 = .ok (.ireturn, 1) := by decide +kernel
theorem dX2_readAs_41 : decode cX2_readAs 41 = .ok (.iload 5, 2) := by decide +kernel
theorem dX2_readAs_43 : decode cX2_readAs 43 = .ok (.ineg, 1) := by decide +kernel
theorem dX2_readAs_44 : decode cX2_readAs 44 = .ok (.aload_n 0, 1) := by decide +kernel
theorem dX2_readAs_45 : decode cX2_readAs 45 = .ok (.getfield 27, 3) := by decide +kernel
theorem dX2_readAs_48 : decode cX2_readAs 48 = .ok (.if_icmp .le 13, 3) := by decide +kernel
theorem dX2_readAs_51 : decode cX2_readAs 51 = .ok (.iload 4, 2) := by decide +kernel
theorem dX2_readAs_53 : decode cX2_readAs 53 = .ok (.iconst 1, 1) := by decide +kernel
theorem dX2_readAs_54 : decode cX2_readAs 54 = .ok (.ishl, 1) := by decide +kernel
theorem dX2_readAs_55 : decode cX2_readAs 55 = .ok (.iconst 1, 1) := by decide +kernel
theorem dX2_readAs_56 : decode cX2_readAs 56 = .ok (.ior, 1) := by decide +kernel
theorem dX2_readAs_57 : decode cX2_readAs 57 = .ok (.bipush 31, 2) := by decide +kernel
theorem dX2_readAs_59 : decode cX2_readAs 59 = .ok (.iand, 1) := by decide +kernel
theorem dX2_readAs_60 : decode cX2_readAs 60 = .ok (.ireturn, 1) := by decide +kernel
theorem dX2_readAs_61 : decode cX2_readAs 61 = .ok (.iload 4, 2) := by decide +kernel
theorem dX2_readAs_63 : decode cX2_readAs 63 = .ok (.ireturn, 1) := by decide +kernel
set_option maxRecDepth 20000 in
theorem ggX3_init_X2_init : GoodIn wsX3_init wsX2_init := goodIn_r _ [18, 19, 2, 3, 20, 13, 14, 21, 22, 23, 24, 25, 26, 27, 28, 29, 30, 31, 32, 33, 59, 60, 43, 44, 45] (by decide +kernel) (by decide +kernel)
set_option maxRecDepth 20000 in
theorem gX3_init_X2_init : GoodIn wsX3_init (wsX2_init) := ggX3_init_X2_init
set_option maxRecDepth 20000 in
theorem ggX3_init_X1_init : GoodIn wsX3_init wsX1_init := goodIn_r _ [36, 37, 2, 3, 38, 39, 40, 13, 14, 41, 24, 25, 26, 27, 28, 56, 57, 58, 59, 60] (by decide +kernel) (by decide +kernel)
set_option maxRecDepth 20000 in
theorem gX3_init_X1_init : GoodIn wsX3_init (wsX1_init) := ggX3_init_X1_init
set_option maxRecDepth 20000 in
theorem ggX3_init_X0_init : GoodIn wsX3_init wsX0_init := goodIn_r _ [25, 26, 2, 3, 27, 28, 59, 60] (by decide +kernel) (by decide +kernel)
set_option maxRecDepth 20000 in
theorem gX3_init_X0_init : GoodIn wsX3_init (wsX0_init) := ggX3_init_X0_init
theorem dX3_init_0 : decode cX3_init 0 = .ok (.aload_n 0, 1) := by decide +kernel
theorem dX3_init_1 : decode cX3_init 1 = .ok (.invokespecial 1, 3) := by decide +kernel
theorem dX3_init_4 : decode cX3_init 4 = .ok (.aload_n 0, 1) := by decide +kernel
theorem dX3_init_5 : decode cX3_init 5 = .ok (.new 7, 3) := by decide +kernel
theorem dX3_init_8 : decode cX3_init 8 = .ok (.dup, 1) := by decide +kernel
theorem dX3_init_9 : decode cX3_init 9 = .ok (.invokespecial 9, 3) := by decide +kernel
theorem dX3_init_12 : decode cX3_init 12 = .ok (.putfield 10, 3) := by decide +kernel
theorem dX3_init_15 : decode cX3_init 15 = .ok (.aload_n 0, 1) := by decide +kernel
theorem dX3_init_16 : decode cX3_init 16 = .ok (.new 16, 3) := by decide +kernel
theorem dX3_init_19 : decode cX3_init 19 = .ok (.dup, 1) := by decide +kernel
theorem dX3_init_20 : decode cX3_init 20 = .ok (.invokespecial 18, 3) := by decide +kernel
theorem dX3_init_23 : decode cX3_init 23 = .ok (.putfield 19, 3) := by decide +kernel
theorem dX3_init_26 : decode cX3_init 26 = .ok (.aload_n 0, 1) := by decide +kernel
theorem dX3_init_27 : decode cX3_init 27 = .ok (.new 23, 3) := by decide +kernel
theorem dX3_init_30 : decode cX3_init 30 = .ok (.dup, 1) := by decide +kernel
theorem dX3_init_31 : decode cX3_init 31 = .ok (.bipush 120, 2) := by decide +kernel
theorem dX3_init_33 : decode cX3_init 33 = .ok (.invokespecial 25, 3) := by decide +kernel
theorem dX3_init_36 : decode cX3_init 36 = .ok (.putfield 28, 3) := by decide +kernel
theorem dX3_init_39 : decode cX3_init 39 = .ok (.return_, 1) := by decide +kernel
set_option maxRecDepth 20000 in
theorem ggX3_code_X3_isCharacter : GoodIn wsX3_code wsX3_isCharacter := goodIn_r _ [6] (by decide +kernel) (by decide +kernel)
set_option maxRecDepth 20000 in
theorem gX3_code_X3_isCharacter : GoodIn wsX3_code (va_wsS RX3 32 yX3_isCharacter wsX3_isCharacter) := goodIn_app (goodIn_of _ (by decide +kernel)) ggX3_code_X3_isCharacter
set_option maxRecDepth 20000 in
theorem ggX3_code_X3_codeOf : GoodIn wsX3_code wsX3_codeOf := goodIn_r _ [9, 10] (by decide +kernel) (by decide +kernel)
set_option maxRecDepth 20000 in
theorem gX3_code_X3_codeOf : GoodIn wsX3_code (va_wsS RX3 43 yX3_codeOf wsX3_codeOf) := goodIn_app (goodIn_of _ (by decide +kernel)) ggX3_code_X3_codeOf
theorem dX3_code_0 : decode cX3_code 0 = .ok (.iload_n 1, 1) := by decide +kernel
theorem dX3_code_1 : decode cX3_code 1 = .ok (.invokestatic 32, 3) := by decide +kernel
theorem dX3_code_4 : decode cX3_code 4 = .ok (.ifCond .ne 13, 3) := by decide +kernel
theorem dX3_code_7 : decode cX3_code 7 = .ok (.new 36, 3) := by decide +kernel
theorem dX3_code_10 : decode cX3_code 10 = .ok (.dup, 1) := by decide +kernel
theorem dX3_code_11 : decode cX3_code 11 = .ok (.ldc 38, 2) := by decide +kernel
theorem dX3_code_13 : decode cX3_code 13 = .ok (.invokespecial 40, 3) := by decide +kernel
theorem dX3_code_16 : decode cX3_code 16 = .ok (.athrow, 1) := by decide +kernel
theorem dX3_code_17 : decode cX3_code 17 = .ok (.iload_n 1, 1) := by decide +kernel
theorem dX3_code_18 : decode cX3_code 18 = .ok (.invokestatic 43, 3) := by decide +kernel
theorem dX3_code_21 : decode cX3_code 21 = .ok (.ireturn, 1) := by decide +kernel
set_option maxRecDepth 20000 in
theorem ggX3_character_X3_isCode : GoodIn wsX3_character wsX3_isCode := goodIn_r _ [6] (by decide +kernel) (by decide +kernel)
set_option maxRecDepth 20000 in
theorem gX3_character_X3_isCode : GoodIn wsX3_character (va_wsS RX3 47 yX3_isCode wsX3_isCode) := goodIn_app (goodIn_of _ (by decide +kernel)) ggX3_character_X3_isCode
set_option maxRecDepth 20000 in
theorem ggX3_character_X3_characterOf : GoodIn wsX3_character wsX3_characterOf := goodIn_r _ [9, 10, 11, 5, 12, 13, 14, 15, 16] (by decide +kernel) (by decide +kernel)
set_option maxRecDepth 20000 in
theorem gX3_character_X3_characterOf : GoodIn wsX3_character (va_wsS RX3 52 yX3_characterOf wsX3_characterOf) := goodIn_app (goodIn_of _ (by decide +kernel)) ggX3_character_X3_characterOf
theorem dX3_character_0 : decode cX3_character 0 = .ok (.iload_n 1, 1) := by decide +kernel
theorem dX3_character_1 : decode cX3_character 1 = .ok (.invokestatic 47, 3) := by decide +kernel
theorem dX3_character_4 : decode cX3_character 4 = .ok (.ifCond .ne 13, 3) := by decide +kernel
theorem dX3_character_7 : decode cX3_character 7 = .ok (.new 36, 3) := by decide +kernel
theorem dX3_character_10 : decode cX3_character 10 = .ok (.dup, 1) := by decide +kernel
theorem dX3_character_11 : decode cX3_character 11 = .ok (.ldc 50, 2) := by decide +kernel
theorem dX3_character_13 : decode cX3_character 13 = .ok (.invokespecial 40, 3) := by decide +kernel
theorem dX3_character_16 : decode cX3_character 16 = .ok (.athrow, 1) := by decide +kernel
theorem dX3_character_17 : decode cX3_character 17 = .ok (.iload_n 1, 1) := by decide +kernel
theorem dX3_character_18 : decode cX3_character 18 = .ok (.iload_n 2, 1) := by decide +kernel
theorem dX3_character_19 : decode cX3_character 19 = .ok (.invokestatic 52, 3) := by decide +kernel
theorem dX3_character_22 : decode cX3_character 22 = .ok (.ireturn, 1) := by decide +kernel
set_option maxRecDepth 20000 in
theorem ggX3_apart_X3_isCharacter : GoodIn wsX3_apart wsX3_isCharacter := goodIn_r _ [6] (by decide +kernel) (by decide +kernel)
set_option maxRecDepth 20000 in
theorem gX3_apart_X3_isCharacter : GoodIn wsX3_apart (va_wsS RX3 32 yX3_isCharacter wsX3_isCharacter) := goodIn_app (goodIn_of _ (by decide +kernel)) ggX3_apart_X3_isCharacter
set_option maxRecDepth 20000 in
theorem ggX3_apart_X3_codeOf : GoodIn wsX3_apart wsX3_codeOf := goodIn_r _ [9, 10] (by decide +kernel) (by decide +kernel)
set_option maxRecDepth 20000 in
theorem gX3_apart_X3_codeOf : GoodIn wsX3_apart (va_wsS RX3 43 yX3_codeOf wsX3_codeOf) := goodIn_app (goodIn_of _ (by decide +kernel)) ggX3_apart_X3_codeOf
set_option maxRecDepth 20000 in
theorem ggX3_apart_J6_bitCount_0f7a4 : GoodIn wsX3_apart wsJ6_bitCount_0f7a4 := goodIn_r _ [14, 15, 16, 17] (by decide +kernel) (by decide +kernel)
set_option maxRecDepth 20000 in
theorem gX3_apart_J6_bitCount_0f7a4 : GoodIn wsX3_apart (va_wsS RX3 56 yJ6_bitCount_0f7a4 wsJ6_bitCount_0f7a4) := goodIn_app (goodIn_of _ (by decide +kernel)) ggX3_apart_J6_bitCount_0f7a4
theorem dX3_apart_0 : decode cX3_apart 0 = .ok (.iload_n 1, 1) := by decide +kernel
theorem dX3_apart_1 : decode cX3_apart 1 = .ok (.invokestatic 32, 3) := by decide +kernel
theorem dX3_apart_4 : decode cX3_apart 4 = .ok (.ifCond .eq 10, 3) := by decide +kernel
theorem dX3_apart_7 : decode cX3_apart 7 = .ok (.iload_n 2, 1) := by decide +kernel
theorem dX3_apart_8 : decode cX3_apart 8 = .ok (.invokestatic 32, 3) := by decide +kernel
theorem dX3_apart_11 : decode cX3_apart 11 = .ok (.ifCond .ne 13, 3) := by decide +kernel
theorem dX3_apart_14 : decode cX3_apart 14 = .ok (.new 36, 3) := by decide +kernel
theorem dX3_apart_17 : decode cX3_apart 17 = .ok (.dup, 1) := by decide +kernel
theorem dX3_apart_18 : decode cX3_apart 18 = .ok (.ldc 38, 2) := by decide +kernel
theorem dX3_apart_20 : decode cX3_apart 20 = .ok (.invokespecial 40, 3) := by decide +kernel
theorem dX3_apart_23 : decode cX3_apart 23 = .ok (.athrow, 1) := by decide +kernel
theorem dX3_apart_24 : decode cX3_apart 24 = .ok (.iload_n 1, 1) := by decide +kernel
theorem dX3_apart_25 : decode cX3_apart 25 = .ok (.invokestatic 43, 3) := by decide +kernel
theorem dX3_apart_28 : decode cX3_apart 28 = .ok (.iload_n 2, 1) := by decide +kernel
theorem dX3_apart_29 : decode cX3_apart 29 = .ok (.invokestatic 43, 3) := by decide +kernel
theorem dX3_apart_32 : decode cX3_apart 32 = .ok (.ixor, 1) := by decide +kernel
theorem dX3_apart_33 : decode cX3_apart 33 = .ok (.invokestatic 56, 3) := by decide +kernel
theorem dX3_apart_36 : decode cX3_apart 36 = .ok (.ireturn, 1) := by decide +kernel
set_option maxRecDepth 20000 in
theorem ggX3_doubts_X3_isCode : GoodIn wsX3_doubts wsX3_isCode := goodIn_r _ [7] (by decide +kernel) (by decide +kernel)
set_option maxRecDepth 20000 in
theorem gX3_doubts_X3_isCode : GoodIn wsX3_doubts (va_wsS RX3 47 yX3_isCode wsX3_isCode) := goodIn_app (goodIn_of _ (by decide +kernel)) ggX3_doubts_X3_isCode
set_option maxRecDepth 20000 in
theorem ggX3_doubts_X3_characterOf : GoodIn wsX3_doubts wsX3_characterOf := goodIn_r _ [10, 11, 12, 6, 13, 14, 15, 16, 17] (by decide +kernel) (by decide +kernel)
set_option maxRecDepth 20000 in
theorem gX3_doubts_X3_characterOf : GoodIn wsX3_doubts (va_wsS RX3 52 yX3_characterOf wsX3_characterOf) := goodIn_app (goodIn_of _ (by decide +kernel)) ggX3_doubts_X3_characterOf
theorem dX3_doubts_0 : decode cX3_doubts 0 = .ok (.iload_n 1, 1) := by decide +kernel
theorem dX3_doubts_1 : decode cX3_doubts 1 = .ok (.invokestatic 47, 3) := by decide +kernel
theorem dX3_doubts_4 : decode cX3_doubts 4 = .ok (.ifCond .ne 13, 3) := by decide +kernel
theorem dX3_doubts_7 : decode cX3_doubts 7 = .ok (.new 36, 3) := by decide +kernel
theorem dX3_doubts_10 : decode cX3_doubts 10 = .ok (.dup, 1) := by decide +kernel
theorem dX3_doubts_11 : decode cX3_doubts 11 = .ok (.ldc 50, 2) := by decide +kernel
theorem dX3_doubts_13 : decode cX3_doubts 13 = .ok (.invokespecial 40, 3) := by decide +kernel
theorem dX3_doubts_16 : decode cX3_doubts 16 = .ok (.athrow, 1) := by decide +kernel
theorem dX3_doubts_17 : decode cX3_doubts 17 = .ok (.iload_n 1, 1) := by decide +kernel
theorem dX3_doubts_18 : decode cX3_doubts 18 = .ok (.aload_n 0, 1) := by decide +kernel
theorem dX3_doubts_19 : decode cX3_doubts 19 = .ok (.getfield 61, 3) := by decide +kernel
theorem dX3_doubts_22 : decode cX3_doubts 22 = .ok (.invokestatic 52, 3) := by decide +kernel
theorem dX3_doubts_25 : decode cX3_doubts 25 = .ok (.istore_n 2, 1) := by decide +kernel
theorem dX3_doubts_26 : decode cX3_doubts 26 = .ok (.iconst 0, 1) := by decide +kernel
theorem dX3_doubts_27 : decode cX3_doubts 27 = .ok (.istore_n 3, 1) := by decide +kernel
theorem dX3_doubts_28 : decode cX3_doubts 28 = .ok (.iconst 0, 1) := by decide +kernel
theorem dX3_doubts_29 : decode cX3_doubts 29 = .ok (.istore 4, 2) := by decide +kernel
theorem dX3_doubts_31 : decode cX3_doubts 31 = .ok (.iload 4, 2) := by decide +kernel
theorem dX3_doubts_33 : decode cX3_doubts 33 = .ok (.iconst 5, 1) := by decide +kernel
theorem dX3_doubts_34 : decode cX3_doubts 34 = .ok (.if_icmp .ge 29, 3) := by decide +kernel
theorem dX3_doubts_37 : decode cX3_doubts 37 = .ok (.iload_n 1, 1) := by decide +kernel
theorem dX3_doubts_38 : decode cX3_doubts 38 = .ok (.iconst 1, 1) := by decide +kernel
theorem dX3_doubts_39 : decode cX3_doubts 39 = .ok (.iload 4, 2) := by decide +kernel
theorem dX3_doubts_41 : decode cX3_doubts 41 = .ok (.ishl, 1) := by decide +kernel
theorem dX3_doubts_42 : decode cX3_doubts 42 = .ok (.ixor, 1) := by decide +kernel
theorem dX3_doubts_43 : decode cX3_doubts 43 = .ok (.aload_n 0, 1) := by decide +kernel
theorem dX3_doubts_44 : decode cX3_doubts 44 = .ok (.getfield 61, 3) := by decide +kernel
theorem dX3_doubts_47 : decode cX3_doubts 47 = .ok (.invokestatic 52, 3) := by decide +kernel
theorem dX3_doubts_50 : decode cX3_doubts 50 = .ok (.iload_n 2, 1) := by decide +kernel
theorem dX3_doubts_51 : decode cX3_doubts 51 = .ok (.if_icmp .eq 6, 3) := by decide +kernel
theorem dX3_doubts_54 : decode cX3_doubts 54 = .ok (.iinc 3 1, 3) := by decide +kernel
theorem dX3_doubts_57 : decode cX3_doubts 57 = .ok (.iinc 4 1, 3) := by decide +kernel
theorem dX3_doubts_60 : decode cX3_doubts 60 = .ok (.goto (-29), 3) := by decide +kernel
theorem dX3_doubts_63 : decode cX3_doubts 63 = .ok (.iload_n 3, 1) := by decide +kernel
theorem dX3_doubts_64 : decode cX3_doubts 64 = .ok (.ireturn, 1) := by decide +kernel
set_option maxRecDepth 20000 in
theorem ggX3_setLine_X3_isCode : GoodIn wsX3_setLine wsX3_isCode := goodIn_r _ [9] (by decide +kernel) (by decide +kernel)
set_option maxRecDepth 20000 in
theorem gX3_setLine_X3_isCode : GoodIn wsX3_setLine (va_wsS RX3 47 yX3_isCode wsX3_isCode) := goodIn_app (goodIn_of _ (by decide +kernel)) ggX3_setLine_X3_isCode
set_option maxRecDepth 20000 in
theorem ggX3_setLine_X2_lateAt : GoodIn wsX3_setLine wsX2_lateAt := goodIn_r _ [14, 15, 16, 17, 18, 19, 20, 21, 22, 23, 24, 25, 26, 46, 47, 48, 49, 50] (by decide +kernel) (by decide +kernel)
set_option maxRecDepth 20000 in
theorem gX3_setLine_X2_lateAt : GoodIn wsX3_setLine (wsV RX3 74 RX2 yX2_lateAt wsX2_lateAt) := goodIn_app (goodIn_of _ (by decide +kernel)) ggX3_setLine_X2_lateAt
set_option maxRecDepth 20000 in
theorem ggX3_setLine_X2_change : GoodIn wsX3_setLine wsX2_change := goodIn_r _ [30, 15, 31, 32, 33, 34, 19, 35, 21, 22, 23, 24, 25, 26, 46, 47, 48, 49, 50] (by decide +kernel) (by decide +kernel)
set_option maxRecDepth 20000 in
theorem gX3_setLine_X2_change : GoodIn wsX3_setLine (wsV RX3 77 RX2 yX2_change wsX2_change) := goodIn_app (goodIn_of _ (by decide +kernel)) ggX3_setLine_X2_change
theorem dX3_setLine_0 : decode cX3_setLine 0 = .ok (.iload_n 1, 1) := by decide +kernel
theorem dX3_setLine_1 : decode cX3_setLine 1 = .ok (.ifCond .lt 9, 3) := by decide +kernel
theorem dX3_setLine_4 : decode cX3_setLine 4 = .ok (.iload_n 1, 1) := by decide +kernel
theorem dX3_setLine_5 : decode cX3_setLine 5 = .ok (.bipush 16, 2) := by decide +kernel
theorem dX3_setLine_7 : decode cX3_setLine 7 = .ok (.if_icmp .lt 13, 3) := by decide +kernel
theorem dX3_setLine_10 : decode cX3_setLine 10 = .ok (.new 36, 3) := by decide +kernel
theorem dX3_setLine_13 : decode cX3_setLine 13 = .ok (.dup, 1) := by decide +kernel
theorem dX3_setLine_14 : decode cX3_setLine 14 = .ok (.ldc 65, 2) := by decide +kernel
theorem dX3_setLine_16 : decode cX3_setLine 16 = .ok (.invokespecial 40, 3) := by decide +kernel
theorem dX3_setLine_19 : decode cX3_setLine 19 = .ok (.athrow, 1) := by decide +kernel
theorem dX3_setLine_20 : decode cX3_setLine 20 = .ok (.iload_n 2, 1) := by decide +kernel
theorem dX3_setLine_21 : decode cX3_setLine 21 = .ok (.bipush (-9), 2) := by decide +kernel
theorem dX3_setLine_23 : decode cX3_setLine 23 = .ok (.if_icmp .lt 9, 3) := by decide +kernel
theorem dX3_setLine_26 : decode cX3_setLine 26 = .ok (.iload_n 2, 1) := by decide +kernel
theorem dX3_setLine_27 : decode cX3_setLine 27 = .ok (.bipush 9, 2) := by decide +kernel
theorem dX3_setLine_29 : decode cX3_setLine 29 = .ok (.if_icmp .le 13, 3) := by decide +kernel
theorem dX3_setLine_32 : decode cX3_setLine 32 = .ok (.new 67, 3) := by decide +kernel
theorem dX3_setLine_35 : decode cX3_setLine 35 = .ok (.dup, 1) := by decide +kernel
theorem dX3_setLine_36 : decode cX3_setLine 36 = .ok (.ldc 69, 2) := by decide +kernel
theorem dX3_setLine_38 : decode cX3_setLine 38 = .ok (.invokespecial 71, 3) := by decide +kernel
theorem dX3_setLine_41 : decode cX3_setLine 41 = .ok (.athrow, 1) := by decide +kernel
theorem dX3_setLine_42 : decode cX3_setLine 42 = .ok (.iload_n 3, 1) := by decide +kernel
theorem dX3_setLine_43 : decode cX3_setLine 43 = .ok (.invokestatic 47, 3) := by decide +kernel
theorem dX3_setLine_46 : decode cX3_setLine 46 = .ok (.ifCond .ne 13, 3) := by decide +kernel
theorem dX3_setLine_49 : decode cX3_setLine 49 = .ok (.new 67, 3) := by decide +kernel
theorem dX3_setLine_52 : decode cX3_setLine 52 = .ok (.dup, 1) := by decide +kernel
theorem dX3_setLine_53 : decode cX3_setLine 53 = .ok (.ldc 72, 2) := by decide +kernel
theorem dX3_setLine_55 : decode cX3_setLine 55 = .ok (.invokespecial 71, 3) := by decide +kernel
theorem dX3_setLine_58 : decode cX3_setLine 58 = .ok (.athrow, 1) := by decide +kernel
theorem dX3_setLine_59 : decode cX3_setLine 59 = .ok (.aload_n 0, 1) := by decide +kernel
theorem dX3_setLine_60 : decode cX3_setLine 60 = .ok (.getfield 10, 3) := by decide +kernel
theorem dX3_setLine_63 : decode cX3_setLine 63 = .ok (.iload_n 1, 1) := by decide +kernel
theorem dX3_setLine_64 : decode cX3_setLine 64 = .ok (.invokevirtual 74, 3) := by decide +kernel
theorem dX3_setLine_67 : decode cX3_setLine 67 = .ok (.istore 4, 2) := by decide +kernel
theorem dX3_setLine_69 : decode cX3_setLine 69 = .ok (.aload_n 0, 1) := by decide +kernel
theorem dX3_setLine_70 : decode cX3_setLine 70 = .ok (.getfield 10, 3) := by decide +kernel
theorem dX3_setLine_73 : decode cX3_setLine 73 = .ok (.iload_n 1, 1) := by decide +kernel
theorem dX3_setLine_74 : decode cX3_setLine 74 = .ok (.iload_n 2, 1) := by decide +kernel
theorem dX3_setLine_75 : decode cX3_setLine 75 = .ok (.iload_n 3, 1) := by decide +kernel
theorem dX3_setLine_76 : decode cX3_setLine 76 = .ok (.invokevirtual 77, 3) := by decide +kernel
theorem dX3_setLine_79 : decode cX3_setLine 79 = .ok (.iload 4, 2) := by decide +kernel
theorem dX3_setLine_81 : decode cX3_setLine 81 = .ok (.ireturn, 1) := by decide +kernel
set_option maxRecDepth 20000 in
theorem ggX3_setPlay_X2_play : GoodIn wsX3_setPlay wsX2_play := goodIn_r _ [8, 9, 24, 25, 26] (by decide +kernel) (by decide +kernel)
set_option maxRecDepth 20000 in
theorem gX3_setPlay_X2_play : GoodIn wsX3_setPlay (wsV RX3 83 RX2 yX2_play wsX2_play) := goodIn_app (goodIn_of _ (by decide +kernel)) ggX3_setPlay_X2_play
set_option maxRecDepth 20000 in
theorem ggX3_setPlay_X2_changePlay : GoodIn wsX3_setPlay wsX2_changePlay := goodIn_r _ [13, 9, 24, 25, 26] (by decide +kernel) (by decide +kernel)
set_option maxRecDepth 20000 in
theorem gX3_setPlay_X2_changePlay : GoodIn wsX3_setPlay (wsV RX3 87 RX2 yX2_changePlay wsX2_changePlay) := goodIn_app (goodIn_of _ (by decide +kernel)) ggX3_setPlay_X2_changePlay
theorem dX3_setPlay_0 : decode cX3_setPlay 0 = .ok (.iload_n 1, 1) := by decide +kernel
theorem dX3_setPlay_1 : decode cX3_setPlay 1 = .ok (.ifCond .lt 9, 3) := by decide +kernel
theorem dX3_setPlay_4 : decode cX3_setPlay 4 = .ok (.iload_n 1, 1) := by decide +kernel
theorem dX3_setPlay_5 : decode cX3_setPlay 5 = .ok (.bipush 9, 2) := by decide +kernel
theorem dX3_setPlay_7 : decode cX3_setPlay 7 = .ok (.if_icmp .le 13, 3) := by decide +kernel
theorem dX3_setPlay_10 : decode cX3_setPlay 10 = .ok (.new 67, 3) := by decide +kernel
theorem dX3_setPlay_13 : decode cX3_setPlay 13 = .ok (.dup, 1) := by decide +kernel
theorem dX3_setPlay_14 : decode cX3_setPlay 14 = .ok (.ldc 81, 2) := by decide +kernel
theorem dX3_setPlay_16 : decode cX3_setPlay 16 = .ok (.invokespecial 71, 3) := by decide +kernel
theorem dX3_setPlay_19 : decode cX3_setPlay 19 = .ok (.athrow, 1) := by decide +kernel
theorem dX3_setPlay_20 : decode cX3_setPlay 20 = .ok (.aload_n 0, 1) := by decide +kernel
theorem dX3_setPlay_21 : decode cX3_setPlay 21 = .ok (.getfield 10, 3) := by decide +kernel
theorem dX3_setPlay_24 : decode cX3_setPlay 24 = .ok (.invokevirtual 83, 3) := by decide +kernel
theorem dX3_setPlay_27 : decode cX3_setPlay 27 = .ok (.istore_n 2, 1) := by decide +kernel
theorem dX3_setPlay_28 : decode cX3_setPlay 28 = .ok (.aload_n 0, 1) := by decide +kernel
theorem dX3_setPlay_29 : decode cX3_setPlay 29 = .ok (.getfield 10, 3) := by decide +kernel
theorem dX3_setPlay_32 : decode cX3_setPlay 32 = .ok (.iload_n 1, 1) := by decide +kernel
theorem dX3_setPlay_33 : decode cX3_setPlay 33 = .ok (.invokevirtual 87, 3) := by decide +kernel
theorem dX3_setPlay_36 : decode cX3_setPlay 36 = .ok (.iload_n 2, 1) := by decide +kernel
theorem dX3_setPlay_37 : decode cX3_setPlay 37 = .ok (.ireturn, 1) := by decide +kernel
theorem dX3_setUnshift_0 : decode cX3_setUnshift 0 = .ok (.aload_n 0, 1) := by decide +kernel
theorem dX3_setUnshift_1 : decode cX3_setUnshift 1 = .ok (.getfield 90, 3) := by decide +kernel
theorem dX3_setUnshift_4 : decode cX3_setUnshift 4 = .ok (.istore_n 2, 1) := by decide +kernel
theorem dX3_setUnshift_5 : decode cX3_setUnshift 5 = .ok (.aload_n 0, 1) := by decide +kernel
theorem dX3_setUnshift_6 : decode cX3_setUnshift 6 = .ok (.iload_n 1, 1) := by decide +kernel
theorem dX3_setUnshift_7 : decode cX3_setUnshift 7 = .ok (.putfield 90, 3) := by decide +kernel
theorem dX3_setUnshift_10 : decode cX3_setUnshift 10 = .ok (.iload_n 2, 1) := by decide +kernel
theorem dX3_setUnshift_11 : decode cX3_setUnshift 11 = .ok (.ireturn, 1) := by decide +kernel
set_option maxRecDepth 20000 in
theorem ggX3_receive_X3_isCode : GoodIn wsX3_receive wsX3_isCode := goodIn_r _ [6] (by decide +kernel) (by decide +kernel)
set_option maxRecDepth 20000 in
theorem gX3_receive_X3_isCode : GoodIn wsX3_receive (va_wsS RX3 47 yX3_isCode wsX3_isCode) := goodIn_app (goodIn_of _ (by decide +kernel)) ggX3_receive_X3_isCode
set_option maxRecDepth 20000 in
theorem ggX3_receive_X3_takeIn : GoodIn wsX3_receive wsX3_takeIn := goodIn_r _ [10, 11, 12, 13, 14, 15, 16, 17, 18, 19, 20, 21, 22, 23, 24, 25, 26, 27, 28, 29, 30, 31, 32, 33, 34, 35, 5, 36, 37, 38, 39, 40, 41, 42, 43, 44, 45, 46, 47, 48, 49, 50, 51, 52, 53, 54, 55, 56, 57, 58, 59, 60, 61, 62, 63, 64, 65, 66, 67, 68, 69, 70, 71, 72, 73, 74, 75, 76, 77, 78, 79, 80, 81, 82, 83, 84, 85, 86, 87, 88, 89, 90, 91, 92, 93, 94, 95, 96, 97, 98, 99, 100, 101] (by decide +kernel) (by decide +kernel)
set_option maxRecDepth 20000 in
theorem gX3_receive_X3_takeIn : GoodIn wsX3_receive (wsV RX3 93 RX3 yX3_takeIn wsX3_takeIn) := goodIn_app (goodIn_of _ (by decide +kernel)) ggX3_receive_X3_takeIn
theorem dX3_receive_0 : decode cX3_receive 0 = .ok (.iload_n 1, 1) := by decide +kernel
theorem dX3_receive_1 : decode cX3_receive 1 = .ok (.invokestatic 47, 3) := by decide +kernel
theorem dX3_receive_4 : decode cX3_receive 4 = .ok (.ifCond .ne 13, 3) := by decide +kernel
theorem dX3_receive_7 : decode cX3_receive 7 = .ok (.new 36, 3) := by decide +kernel
theorem dX3_receive_10 : decode cX3_receive 10 = .ok (.dup, 1) := by decide +kernel
theorem dX3_receive_11 : decode cX3_receive 11 = .ok (.ldc 50, 2) := by decide +kernel
theorem dX3_receive_13 : decode cX3_receive 13 = .ok (.invokespecial 40, 3) := by decide +kernel
theorem dX3_receive_16 : decode cX3_receive 16 = .ok (.athrow, 1) := by decide +kernel
theorem dX3_receive_17 : decode cX3_receive 17 = .ok (.aload_n 0, 1) := by decide +kernel
theorem dX3_receive_18 : decode cX3_receive 18 = .ok (.iload_n 1, 1) := by decide +kernel
theorem dX3_receive_19 : decode cX3_receive 19 = .ok (.invokevirtual 93, 3) := by decide +kernel
theorem dX3_receive_22 : decode cX3_receive 22 = .ok (.ireturn, 1) := by decide +kernel
set_option maxRecDepth 20000 in
theorem ggX3_punch_X3_isCode : GoodIn wsX3_punch wsX3_isCode := goodIn_r _ [9] (by decide +kernel) (by decide +kernel)
set_option maxRecDepth 20000 in
theorem gX3_punch_X3_isCode : GoodIn wsX3_punch (va_wsS RX3 47 yX3_isCode wsX3_isCode) := goodIn_app (goodIn_of _ (by decide +kernel)) ggX3_punch_X3_isCode
set_option maxRecDepth 20000 in
theorem ggX3_punch_X0_room : GoodIn wsX3_punch wsX0_room := goodIn_r _ [14, 15, 16, 35, 36] (by decide +kernel) (by decide +kernel)
set_option maxRecDepth 20000 in
theorem gX3_punch_X0_room : GoodIn wsX3_punch (wsV RX3 96 RX0 yX0_room wsX0_room) := goodIn_app (goodIn_of _ (by decide +kernel)) ggX3_punch_X0_room
set_option maxRecDepth 20000 in
theorem ggX3_punch_X0_add : GoodIn wsX3_punch wsX0_add := goodIn_r _ [20, 16, 15, 35, 36] (by decide +kernel) (by decide +kernel)
set_option maxRecDepth 20000 in
theorem gX3_punch_X0_add : GoodIn wsX3_punch (wsV RX3 104 RX0 yX0_add wsX0_add) := goodIn_app (goodIn_of _ (by decide +kernel)) ggX3_punch_X0_add
set_option maxRecDepth 20000 in
theorem ggX3_punch_X0_size : GoodIn wsX3_punch wsX0_size := goodIn_r _ [24, 16, 35, 36] (by decide +kernel) (by decide +kernel)
set_option maxRecDepth 20000 in
theorem gX3_punch_X0_size : GoodIn wsX3_punch (wsV RX3 107 RX0 yX0_size wsX0_size) := goodIn_app (goodIn_of _ (by decide +kernel)) ggX3_punch_X0_size
theorem dX3_punch_0 : decode cX3_punch 0 = .ok (.iload_n 1, 1) := by decide +kernel
theorem dX3_punch_1 : decode cX3_punch 1 = .ok (.invokestatic 47, 3) := by decide +kernel
theorem dX3_punch_4 : decode cX3_punch 4 = .ok (.ifCond .ne 13, 3) := by decide +kernel
theorem dX3_punch_7 : decode cX3_punch 7 = .ok (.new 36, 3) := by decide +kernel
theorem dX3_punch_10 : decode cX3_punch 10 = .ok (.dup, 1) := by decide +kernel
theorem dX3_punch_11 : decode cX3_punch 11 = .ok (.ldc 50, 2) := by decide +kernel
theorem dX3_punch_13 : decode cX3_punch 13 = .ok (.invokespecial 40, 3) := by decide +kernel
theorem dX3_punch_16 : decode cX3_punch 16 = .ok (.athrow, 1) := by decide +kernel
theorem dX3_punch_17 : decode cX3_punch 17 = .ok (.aload_n 0, 1) := by decide +kernel
theorem dX3_punch_18 : decode cX3_punch 18 = .ok (.getfield 28, 3) := by decide +kernel
theorem dX3_punch_21 : decode cX3_punch 21 = .ok (.invokevirtual 96, 3) := by decide +kernel
theorem dX3_punch_24 : decode cX3_punch 24 = .ok (.iconst 1, 1) := by decide +kernel
theorem dX3_punch_25 : decode cX3_punch 25 = .ok (.if_icmp .ge 13, 3) := by decide +kernel
theorem dX3_punch_28 : decode cX3_punch 28 = .ok (.new 99, 3) := by decide +kernel
theorem dX3_punch_31 : decode cX3_punch 31 = .ok (.dup, 1) := by decide +kernel
theorem dX3_punch_32 : decode cX3_punch 32 = .ok (.ldc 101, 2) := by decide +kernel
theorem dX3_punch_34 : decode cX3_punch 34 = .ok (.invokespecial 103, 3) := by decide +kernel
theorem dX3_punch_37 : decode cX3_punch 37 = .ok (.athrow, 1) := by decide +kernel
theorem dX3_punch_38 : decode cX3_punch 38 = .ok (.aload_n 0, 1) := by decide +kernel
theorem dX3_punch_39 : decode cX3_punch 39 = .ok (.getfield 28, 3) := by decide +kernel
theorem dX3_punch_42 : decode cX3_punch 42 = .ok (.iload_n 1, 1) := by decide +kernel
theorem dX3_punch_43 : decode cX3_punch 43 = .ok (.invokevirtual 104, 3) := by decide +kernel
theorem dX3_punch_46 : decode cX3_punch 46 = .ok (.pop, 1) := by decide +kernel
theorem dX3_punch_47 : decode cX3_punch 47 = .ok (.aload_n 0, 1) := by decide +kernel
theorem dX3_punch_48 : decode cX3_punch 48 = .ok (.getfield 28, 3) := by decide +kernel
theorem dX3_punch_51 : decode cX3_punch 51 = .ok (.invokevirtual 107, 3) := by decide +kernel
theorem dX3_punch_54 : decode cX3_punch 54 = .ok (.ireturn, 1) := by decide +kernel
set_option maxRecDepth 20000 in
theorem ggX3_type_X3_isCharacter : GoodIn wsX3_type wsX3_isCharacter := goodIn_r _ [9] (by decide +kernel) (by decide +kernel)
set_option maxRecDepth 20000 in
theorem gX3_type_X3_isCharacter : GoodIn wsX3_type (va_wsS RX3 32 yX3_isCharacter wsX3_isCharacter) := goodIn_app (goodIn_of _ (by decide +kernel)) ggX3_type_X3_isCharacter
set_option maxRecDepth 20000 in
theorem ggX3_type_X3_isFigure : GoodIn wsX3_type wsX3_isFigure := goodIn_r _ [12] (by decide +kernel) (by decide +kernel)
set_option maxRecDepth 20000 in
theorem gX3_type_X3_isFigure : GoodIn wsX3_type (va_wsS RX3 110 yX3_isFigure wsX3_isFigure) := goodIn_app (goodIn_of _ (by decide +kernel)) ggX3_type_X3_isFigure
set_option maxRecDepth 20000 in
theorem ggX3_type_X3_codeOf : GoodIn wsX3_type wsX3_codeOf := goodIn_r _ [15, 16] (by decide +kernel) (by decide +kernel)
set_option maxRecDepth 20000 in
theorem gX3_type_X3_codeOf : GoodIn wsX3_type (va_wsS RX3 43 yX3_codeOf wsX3_codeOf) := goodIn_app (goodIn_of _ (by decide +kernel)) ggX3_type_X3_codeOf
set_option maxRecDepth 20000 in
theorem ggX3_type_X3_dependsOnShift : GoodIn wsX3_type wsX3_dependsOnShift := goodIn_r _ [19, 20, 21, 8, 22, 23] (by decide +kernel) (by decide +kernel)
set_option maxRecDepth 20000 in
theorem gX3_type_X3_dependsOnShift : GoodIn wsX3_type (va_wsS RX3 113 yX3_dependsOnShift wsX3_dependsOnShift) := goodIn_app (goodIn_of _ (by decide +kernel)) ggX3_type_X3_dependsOnShift
set_option maxRecDepth 20000 in
theorem ggX3_type_X3_figuresAtEnd : GoodIn wsX3_type wsX3_figuresAtEnd := goodIn_r _ [27, 5, 28, 29, 30, 31, 32, 33, 34, 35, 36, 8, 37, 38, 39, 40, 41, 42, 43, 44, 45, 46, 47, 48, 49, 50, 51, 52, 53, 54, 55, 64, 65, 66, 67, 68, 69, 70, 71, 72, 73, 74, 75] (by decide +kernel) (by decide +kernel)
set_option maxRecDepth 20000 in
theorem gX3_type_X3_figuresAtEnd : GoodIn wsX3_type (wsV RX3 116 RX3 yX3_figuresAtEnd wsX3_figuresAtEnd) := goodIn_app (goodIn_of _ (by decide +kernel)) ggX3_type_X3_figuresAtEnd
set_option maxRecDepth 20000 in
theorem ggX3_type_X0_room : GoodIn wsX3_type wsX0_room := goodIn_r _ [59, 42, 33, 74, 75] (by decide +kernel) (by decide +kernel)
set_option maxRecDepth 20000 in
theorem gX3_type_X0_room : GoodIn wsX3_type (wsV RX3 96 RX0 yX0_room wsX0_room) := goodIn_app (goodIn_of _ (by decide +kernel)) ggX3_type_X0_room
set_option maxRecDepth 20000 in
theorem ggX3_type_X0_add : GoodIn wsX3_type wsX0_add := goodIn_r _ [63, 33, 42, 74, 75] (by decide +kernel) (by decide +kernel)
set_option maxRecDepth 20000 in
theorem gX3_type_X0_add : GoodIn wsX3_type (wsV RX3 104 RX0 yX0_add wsX0_add) := goodIn_app (goodIn_of _ (by decide +kernel)) ggX3_type_X0_add
theorem dX3_type_0 : decode cX3_type 0 = .ok (.iload_n 1, 1) := by decide +kernel
theorem dX3_type_1 : decode cX3_type 1 = .ok (.invokestatic 32, 3) := by decide +kernel
theorem dX3_type_4 : decode cX3_type 4 = .ok (.ifCond .ne 13, 3) := by decide +kernel
theorem dX3_type_7 : decode cX3_type 7 = .ok (.new 36, 3) := by decide +kernel
theorem dX3_type_10 : decode cX3_type 10 = .ok (.dup, 1) := by decide +kernel
theorem dX3_type_11 : decode cX3_type 11 = .ok (.ldc 38, 2) := by decide +kernel
theorem dX3_type_13 : decode cX3_type 13 = .ok (.invokespecial 40, 3) := by decide +kernel
theorem dX3_type_16 : decode cX3_type 16 = .ok (.athrow, 1) := by decide +kernel
theorem dX3_type_17 : decode cX3_type 17 = .ok (.iload_n 1, 1) := by decide +kernel
theorem dX3_type_18 : decode cX3_type 18 = .ok (.invokestatic 110, 3) := by decide +kernel
theorem dX3_type_21 : decode cX3_type 21 = .ok (.istore_n 2, 1) := by decide +kernel
theorem dX3_type_22 : decode cX3_type 22 = .ok (.iload_n 1, 1) := by decide +kernel
theorem dX3_type_23 : decode cX3_type 23 = .ok (.invokestatic 43, 3) := by decide +kernel
theorem dX3_type_26 : decode cX3_type 26 = .ok (.invokestatic 113, 3) := by decide +kernel
theorem dX3_type_29 : decode cX3_type 29 = .ok (.ifCond .eq 15, 3) := by decide +kernel
theorem dX3_type_32 : decode cX3_type 32 = .ok (.iload_n 2, 1) := by decide +kernel
theorem dX3_type_33 : decode cX3_type 33 = .ok (.aload_n 0, 1) := by decide +kernel
theorem dX3_type_34 : decode cX3_type 34 = .ok (.invokevirtual 116, 3) := by decide +kernel
theorem dX3_type_37 : decode cX3_type 37 = .ok (.if_icmp .eq 7, 3) := by decide +kernel
theorem dX3_type_40 : decode cX3_type 40 = .ok (.iconst 1, 1) := by decide +kernel
theorem dX3_type_41 : decode cX3_type 41 = .ok (.goto 4, 3) := by decide +kernel
theorem dX3_type_44 : decode cX3_type 44 = .ok (.iconst 0, 1) := by decide +kernel
theorem dX3_type_45 : decode cX3_type 45 = .ok (.istore_n 3, 1) := by decide +kernel
theorem dX3_type_46 : decode cX3_type 46 = .ok (.iload_n 3, 1) := by decide +kernel
theorem dX3_type_47 : decode cX3_type 47 = .ok (.ifCond .eq 7, 3) := by decide +kernel
theorem dX3_type_50 : decode cX3_type 50 = .ok (.iconst 2, 1) := by decide +kernel
theorem dX3_type_51 : decode cX3_type 51 = .ok (.goto 4, 3) := by decide +kernel
theorem dX3_type_54 : decode cX3_type 54 = .ok (.iconst 1, 1) := by decide +kernel
theorem dX3_type_55 : decode cX3_type 55 = .ok (.istore 4, 2) := by decide +kernel
theorem dX3_type_57 : decode cX3_type 57 = .ok (.aload_n 0, 1) := by decide +kernel
theorem dX3_type_58 : decode cX3_type 58 = .ok (.getfield 28, 3) := by decide +kernel
theorem dX3_type_61 : decode cX3_type 61 = .ok (.invokevirtual 96, 3) := by decide +kernel
theorem dX3_type_64 : decode cX3_type 64 = .ok (.iload 4, 2) := by decide +kernel
theorem dX3_type_66 : decode cX3_type 66 = .ok (.if_icmp .ge 13, 3) := by decide +kernel
theorem dX3_type_69 : decode cX3_type 69 = .ok (.new 99, 3) := by decide +kernel
theorem dX3_type_72 : decode cX3_type 72 = .ok (.dup, 1) := by decide +kernel
theorem dX3_type_73 : decode cX3_type 73 = .ok (.ldc 120, 2) := by decide +kernel
theorem dX3_type_75 : decode cX3_type 75 = .ok (.invokespecial 103, 3) := by decide +kernel
theorem dX3_type_78 : decode cX3_type 78 = .ok (.athrow, 1) := by decide +kernel
theorem dX3_type_79 : decode cX3_type 79 = .ok (.iload_n 3, 1) := by decide +kernel
theorem dX3_type_80 : decode cX3_type 80 = .ok (.ifCond .eq 22, 3) := by decide +kernel
theorem dX3_type_83 : decode cX3_type 83 = .ok (.aload_n 0, 1) := by decide +kernel
theorem dX3_type_84 : decode cX3_type 84 = .ok (.getfield 28, 3) := by decide +kernel
theorem dX3_type_87 : decode cX3_type 87 = .ok (.iload_n 2, 1) := by decide +kernel
theorem dX3_type_88 : decode cX3_type 88 = .ok (.ifCond .eq 8, 3) := by decide +kernel
theorem dX3_type_91 : decode cX3_type 91 = .ok (.bipush 27, 2) := by decide +kernel
theorem dX3_type_93 : decode cX3_type 93 = .ok (.goto 5, 3) := by decide +kernel
theorem dX3_type_96 : decode cX3_type 96 = .ok (.bipush 31, 2) := by decide +kernel
theorem dX3_type_98 : decode cX3_type 98 = .ok (.invokevirtual 104, 3) := by decide +kernel
theorem dX3_type_101 : decode cX3_type 101 = .ok (.pop, 1) := by decide +kernel
theorem dX3_type_102 : decode cX3_type 102 = .ok (.aload_n 0, 1) := by decide +kernel
theorem dX3_type_103 : decode cX3_type 103 = .ok (.getfield 28, 3) := by decide +kernel
theorem dX3_type_106 : decode cX3_type 106 = .ok (.iload_n 1, 1) := by decide +kernel
theorem dX3_type_107 : decode cX3_type 107 = .ok (.invokestatic 43, 3) := by decide +kernel
theorem dX3_type_110 : decode cX3_type 110 = .ok (.invokevirtual 104, 3) := by decide +kernel
theorem dX3_type_113 : decode cX3_type 113 = .ok (.pop, 1) := by decide +kernel
theorem dX3_type_114 : decode cX3_type 114 = .ok (.iload 4, 2) := by decide +kernel
theorem dX3_type_116 : decode cX3_type 116 = .ok (.ireturn, 1) := by decide +kernel
set_option maxRecDepth 20000 in
theorem ggX3_rub_X0_has : GoodIn wsX3_rub wsX0_has := goodIn_r _ [8, 9, 10, 30, 31] (by decide +kernel) (by decide +kernel)
set_option maxRecDepth 20000 in
theorem gX3_rub_X0_has : GoodIn wsX3_rub (wsV RX3 122 RX0 yX0_has wsX0_has) := goodIn_app (goodIn_of _ (by decide +kernel)) ggX3_rub_X0_has
set_option maxRecDepth 20000 in
theorem ggX3_rub_X0_at : GoodIn wsX3_rub wsX0_at := goodIn_r _ [14, 10, 15, 5, 6, 7, 8, 9, 30, 31] (by decide +kernel) (by decide +kernel)
set_option maxRecDepth 20000 in
theorem gX3_rub_X0_at : GoodIn wsX3_rub (wsV RX3 127 RX0 yX0_at wsX0_at) := goodIn_app (goodIn_of _ (by decide +kernel)) ggX3_rub_X0_at
set_option maxRecDepth 20000 in
theorem ggX3_rub_X0_change : GoodIn wsX3_rub wsX0_change := goodIn_r _ [19, 10, 15, 5, 6, 7, 8, 9, 30, 31] (by decide +kernel) (by decide +kernel)
set_option maxRecDepth 20000 in
theorem gX3_rub_X0_change : GoodIn wsX3_rub (wsV RX3 130 RX0 yX0_change wsX0_change) := goodIn_app (goodIn_of _ (by decide +kernel)) ggX3_rub_X0_change
theorem dX3_rub_0 : decode cX3_rub 0 = .ok (.aload_n 0, 1) := by decide +kernel
theorem dX3_rub_1 : decode cX3_rub 1 = .ok (.getfield 28, 3) := by decide +kernel
theorem dX3_rub_4 : decode cX3_rub 4 = .ok (.iload_n 1, 1) := by decide +kernel
theorem dX3_rub_5 : decode cX3_rub 5 = .ok (.invokevirtual 122, 3) := by decide +kernel
theorem dX3_rub_8 : decode cX3_rub 8 = .ok (.ifCond .ne 13, 3) := by decide +kernel
theorem dX3_rub_11 : decode cX3_rub 11 = .ok (.new 36, 3) := by decide +kernel
theorem dX3_rub_14 : decode cX3_rub 14 = .ok (.dup, 1) := by decide +kernel
theorem dX3_rub_15 : decode cX3_rub 15 = .ok (.ldc 125, 2) := by decide +kernel
theorem dX3_rub_17 : decode cX3_rub 17 = .ok (.invokespecial 40, 3) := by decide +kernel
theorem dX3_rub_20 : decode cX3_rub 20 = .ok (.athrow, 1) := by decide +kernel
theorem dX3_rub_21 : decode cX3_rub 21 = .ok (.aload_n 0, 1) := by decide +kernel
theorem dX3_rub_22 : decode cX3_rub 22 = .ok (.getfield 28, 3) := by decide +kernel
theorem dX3_rub_25 : decode cX3_rub 25 = .ok (.iload_n 1, 1) := by decide +kernel
theorem dX3_rub_26 : decode cX3_rub 26 = .ok (.invokevirtual 127, 3) := by decide +kernel
theorem dX3_rub_29 : decode cX3_rub 29 = .ok (.istore_n 2, 1) := by decide +kernel
theorem dX3_rub_30 : decode cX3_rub 30 = .ok (.aload_n 0, 1) := by decide +kernel
theorem dX3_rub_31 : decode cX3_rub 31 = .ok (.getfield 28, 3) := by decide +kernel
theorem dX3_rub_34 : decode cX3_rub 34 = .ok (.iload_n 1, 1) := by decide +kernel
theorem dX3_rub_35 : decode cX3_rub 35 = .ok (.bipush 31, 2) := by decide +kernel
theorem dX3_rub_37 : decode cX3_rub 37 = .ok (.invokevirtual 130, 3) := by decide +kernel
theorem dX3_rub_40 : decode cX3_rub 40 = .ok (.iload_n 2, 1) := by decide +kernel
theorem dX3_rub_41 : decode cX3_rub 41 = .ok (.ireturn, 1) := by decide +kernel
set_option maxRecDepth 20000 in
theorem ggX3_run_X0_size : GoodIn wsX3_run wsX0_size := goodIn_r _ [13, 14, 102, 103] (by decide +kernel) (by decide +kernel)
set_option maxRecDepth 20000 in
theorem gX3_run_X0_size : GoodIn wsX3_run (wsV RX3 107 RX0 yX0_size wsX0_size) := goodIn_app (goodIn_of _ (by decide +kernel)) ggX3_run_X0_size
set_option maxRecDepth 20000 in
theorem ggX3_run_X0_at : GoodIn wsX3_run wsX0_at := goodIn_r _ [18, 19, 20, 21, 22, 12, 23, 14, 102, 103] (by decide +kernel) (by decide +kernel)
set_option maxRecDepth 20000 in
theorem gX3_run_X0_at : GoodIn wsX3_run (wsV RX3 127 RX0 yX0_at wsX0_at) := goodIn_app (goodIn_of _ (by decide +kernel)) ggX3_run_X0_at
set_option maxRecDepth 20000 in
theorem ggX3_run_X3_takeIn : GoodIn wsX3_run wsX3_takeIn := goodIn_r _ [28, 29, 30, 31, 32, 33, 34, 35, 36, 37, 38, 39, 40, 16, 17, 12, 18, 19, 20, 21, 22, 23, 14, 41, 42, 43, 27, 44, 45, 46, 47, 48, 49, 50, 51, 52, 53, 54, 55, 56, 57, 58, 59, 60, 61, 62, 63, 64, 65, 66, 67, 68, 69, 70, 71, 72, 73, 74, 75, 76, 77, 78, 79, 80, 81, 82, 83, 84, 85, 86, 87, 88, 89, 90, 91, 92, 93, 94, 95, 96, 97, 98, 99, 100, 101, 104, 105, 106, 102, 103, 107, 108, 109] (by decide +kernel) (by decide +kernel)
set_option maxRecDepth 20000 in
theorem gX3_run_X3_takeIn : GoodIn wsX3_run (wsV RX3 93 RX3 yX3_takeIn wsX3_takeIn) := goodIn_app (goodIn_of _ (by decide +kernel)) ggX3_run_X3_takeIn
theorem dX3_run_0 : decode cX3_run 0 = .ok (.iload_n 1, 1) := by decide +kernel
theorem dX3_run_1 : decode cX3_run 1 = .ok (.iconst 1, 1) := by decide +kernel
theorem dX3_run_2 : decode cX3_run 2 = .ok (.if_icmp .lt 9, 3) := by decide +kernel
theorem dX3_run_5 : decode cX3_run 5 = .ok (.iload_n 1, 1) := by decide +kernel
theorem dX3_run_6 : decode cX3_run 6 = .ok (.bipush 120, 2) := by decide +kernel
theorem dX3_run_8 : decode cX3_run 8 = .ok (.if_icmp .le 13, 3) := by decide +kernel
theorem dX3_run_11 : decode cX3_run 11 = .ok (.new 67, 3) := by decide +kernel
theorem dX3_run_14 : decode cX3_run 14 = .ok (.dup, 1) := by decide +kernel
theorem dX3_run_15 : decode cX3_run 15 = .ok (.ldc 133, 2) := by decide +kernel
theorem dX3_run_17 : decode cX3_run 17 = .ok (.invokespecial 71, 3) := by decide +kernel
theorem dX3_run_20 : decode cX3_run 20 = .ok (.athrow, 1) := by decide +kernel
theorem dX3_run_21 : decode cX3_run 21 = .ok (.iload_n 1, 1) := by decide +kernel
theorem dX3_run_22 : decode cX3_run 22 = .ok (.aload_n 0, 1) := by decide +kernel
theorem dX3_run_23 : decode cX3_run 23 = .ok (.getfield 28, 3) := by decide +kernel
theorem dX3_run_26 : decode cX3_run 26 = .ok (.invokevirtual 107, 3) := by decide +kernel
theorem dX3_run_29 : decode cX3_run 29 = .ok (.aload_n 0, 1) := by decide +kernel
theorem dX3_run_30 : decode cX3_run 30 = .ok (.getfield 135, 3) := by decide +kernel
theorem dX3_run_33 : decode cX3_run 33 = .ok (.isub, 1) := by decide +kernel
theorem dX3_run_34 : decode cX3_run 34 = .ok (.invokestatic 139, 3) := by decide +kernel
theorem dX3_run_37 : decode cX3_run 37 = .ok (.istore_n 2, 1) := by decide +kernel
theorem dX3_run_38 : decode cX3_run 38 = .ok (.iconst 0, 1) := by decide +kernel
theorem dX3_run_39 : decode cX3_run 39 = .ok (.istore_n 3, 1) := by decide +kernel
theorem dX3_run_40 : decode cX3_run 40 = .ok (.iload_n 3, 1) := by decide +kernel
theorem dX3_run_41 : decode cX3_run 41 = .ok (.iload_n 2, 1) := by decide +kernel
theorem dX3_run_42 : decode cX3_run 42 = .ok (.if_icmp .ge 35, 3) := by decide +kernel
theorem dX3_run_45 : decode cX3_run 45 = .ok (.aload_n 0, 1) := by decide +kernel
theorem dX3_run_46 : decode cX3_run 46 = .ok (.aload_n 0, 1) := by decide +kernel
theorem dX3_run_47 : decode cX3_run 47 = .ok (.getfield 28, 3) := by decide +kernel
theorem dX3_run_50 : decode cX3_run 50 = .ok (.aload_n 0, 1) := by decide +kernel
theorem dX3_run_51 : decode cX3_run 51 = .ok (.getfield 135, 3) := by decide +kernel
theorem dX3_run_54 : decode cX3_run 54 = .ok (.invokevirtual 127, 3) := by decide +kernel
theorem dX3_run_57 : decode cX3_run 57 = .ok (.invokevirtual 93, 3) := by decide +kernel
theorem dX3_run_60 : decode cX3_run 60 = .ok (.pop, 1) := by decide +kernel
theorem dX3_run_61 : decode cX3_run 61 = .ok (.aload_n 0, 1) := by decide +kernel
theorem dX3_run_62 : decode cX3_run 62 = .ok (.dup, 1) := by decide +kernel
theorem dX3_run_63 : decode cX3_run 63 = .ok (.getfield 135, 3) := by decide +kernel
theorem dX3_run_66 : decode cX3_run 66 = .ok (.iconst 1, 1) := by decide +kernel
theorem dX3_run_67 : decode cX3_run 67 = .ok (.iadd, 1) := by decide +kernel
theorem dX3_run_68 : decode cX3_run 68 = .ok (.putfield 135, 3) := by decide +kernel
theorem dX3_run_71 : decode cX3_run 71 = .ok (.iinc 3 1, 3) := by decide +kernel
theorem dX3_run_74 : decode cX3_run 74 = .ok (.goto (-34), 3) := by decide +kernel
theorem dX3_run_77 : decode cX3_run 77 = .ok (.iload_n 2, 1) := by decide +kernel
theorem dX3_run_78 : decode cX3_run 78 = .ok (.ireturn, 1) := by decide +kernel
set_option maxRecDepth 20000 in
theorem ggX3_wind_X0_size : GoodIn wsX3_wind wsX0_size := goodIn_r _ [9, 10, 21, 22] (by decide +kernel) (by decide +kernel)
set_option maxRecDepth 20000 in
theorem gX3_wind_X0_size : GoodIn wsX3_wind (wsV RX3 107 RX0 yX0_size wsX0_size) := goodIn_app (goodIn_of _ (by decide +kernel)) ggX3_wind_X0_size
theorem dX3_wind_0 : decode cX3_wind 0 = .ok (.iload_n 1, 1) := by decide +kernel
theorem dX3_wind_1 : decode cX3_wind 1 = .ok (.ifCond .lt 14, 3) := by decide +kernel
theorem dX3_wind_4 : decode cX3_wind 4 = .ok (.iload_n 1, 1) := by decide +kernel
theorem dX3_wind_5 : decode cX3_wind 5 = .ok (.aload_n 0, 1) := by decide +kernel
theorem dX3_wind_6 : decode cX3_wind 6 = .ok (.getfield 28, 3) := by decide +kernel
theorem dX3_wind_9 : decode cX3_wind 9 = .ok (.invokevirtual 107, 3) := by decide +kernel
theorem dX3_wind_12 : decode cX3_wind 12 = .ok (.if_icmp .le 13, 3) := by decide +kernel
theorem dX3_wind_15 : decode cX3_wind 15 = .ok (.new 36, 3) := by decide +kernel
theorem dX3_wind_18 : decode cX3_wind 18 = .ok (.dup, 1) := by decide +kernel
theorem dX3_wind_19 : decode cX3_wind 19 = .ok (.ldc 125, 2) := by decide +kernel
theorem dX3_wind_21 : decode cX3_wind 21 = .ok (.invokespecial 40, 3) := by decide +kernel
theorem dX3_wind_24 : decode cX3_wind 24 = .ok (.athrow, 1) := by decide +kernel
theorem dX3_wind_25 : decode cX3_wind 25 = .ok (.aload_n 0, 1) := by decide +kernel
theorem dX3_wind_26 : decode cX3_wind 26 = .ok (.getfield 135, 3) := by decide +kernel
theorem dX3_wind_29 : decode cX3_wind 29 = .ok (.istore_n 2, 1) := by decide +kernel
theorem dX3_wind_30 : decode cX3_wind 30 = .ok (.aload_n 0, 1) := by decide +kernel
theorem dX3_wind_31 : decode cX3_wind 31 = .ok (.iload_n 1, 1) := by decide +kernel
theorem dX3_wind_32 : decode cX3_wind 32 = .ok (.putfield 135, 3) := by decide +kernel
theorem dX3_wind_35 : decode cX3_wind 35 = .ok (.iload_n 2, 1) := by decide +kernel
theorem dX3_wind_36 : decode cX3_wind 36 = .ok (.ireturn, 1) := by decide +kernel
set_option maxRecDepth 20000 in
theorem ggX3_tape_X0_has : GoodIn wsX3_tape wsX0_has := goodIn_r _ [8, 9, 10, 26, 27] (by decide +kernel) (by decide +kernel)
set_option maxRecDepth 20000 in
theorem gX3_tape_X0_has : GoodIn wsX3_tape (wsV RX3 122 RX0 yX0_has wsX0_has) := goodIn_app (goodIn_of _ (by decide +kernel)) ggX3_tape_X0_has
set_option maxRecDepth 20000 in
theorem ggX3_tape_X0_at : GoodIn wsX3_tape wsX0_at := goodIn_r _ [14, 10, 15, 5, 6, 7, 8, 9, 26, 27] (by decide +kernel) (by decide +kernel)
set_option maxRecDepth 20000 in
theorem gX3_tape_X0_at : GoodIn wsX3_tape (wsV RX3 127 RX0 yX0_at wsX0_at) := goodIn_app (goodIn_of _ (by decide +kernel)) ggX3_tape_X0_at
theorem dX3_tape_0 : decode cX3_tape 0 = .ok (.aload_n 0, 1) := by decide +kernel
theorem dX3_tape_1 : decode cX3_tape 1 = .ok (.getfield 28, 3) := by decide +kernel
theorem dX3_tape_4 : decode cX3_tape 4 = .ok (.iload_n 1, 1) := by decide +kernel
theorem dX3_tape_5 : decode cX3_tape 5 = .ok (.invokevirtual 122, 3) := by decide +kernel
theorem dX3_tape_8 : decode cX3_tape 8 = .ok (.ifCond .ne 13, 3) := by decide +kernel
theorem dX3_tape_11 : decode cX3_tape 11 = .ok (.new 36, 3) := by decide +kernel
theorem dX3_tape_14 : decode cX3_tape 14 = .ok (.dup, 1) := by decide +kernel
theorem dX3_tape_15 : decode cX3_tape 15 = .ok (.ldc 125, 2) := by decide +kernel
theorem dX3_tape_17 : decode cX3_tape 17 = .ok (.invokespecial 40, 3) := by decide +kernel
theorem dX3_tape_20 : decode cX3_tape 20 = .ok (.athrow, 1) := by decide +kernel
theorem dX3_tape_21 : decode cX3_tape 21 = .ok (.aload_n 0, 1) := by decide +kernel
theorem dX3_tape_22 : decode cX3_tape 22 = .ok (.getfield 28, 3) := by decide +kernel
theorem dX3_tape_25 : decode cX3_tape 25 = .ok (.iload_n 1, 1) := by decide +kernel
theorem dX3_tape_26 : decode cX3_tape 26 = .ok (.invokevirtual 127, 3) := by decide +kernel
theorem dX3_tape_29 : decode cX3_tape 29 = .ok (.ireturn, 1) := by decide +kernel
set_option maxRecDepth 20000 in
theorem ggX3_page_X1_row : GoodIn wsX3_page wsX1_row := goodIn_r _ [8, 9, 10, 11, 34, 35, 36] (by decide +kernel) (by decide +kernel)
set_option maxRecDepth 20000 in
theorem gX3_page_X1_row : GoodIn wsX3_page (wsV RX3 145 RX1 yX1_row wsX1_row) := goodIn_app (goodIn_of _ (by decide +kernel)) ggX3_page_X1_row
set_option maxRecDepth 20000 in
theorem ggX3_page_X0_has : GoodIn wsX3_page wsX0_has := goodIn_r _ [16, 17, 18, 37, 38] (by decide +kernel) (by decide +kernel)
set_option maxRecDepth 20000 in
theorem gX3_page_X0_has : GoodIn wsX3_page (wsV RX3 122 RX0 yX0_has wsX0_has) := goodIn_app (goodIn_of _ (by decide +kernel)) ggX3_page_X0_has
set_option maxRecDepth 20000 in
theorem ggX3_page_X0_at : GoodIn wsX3_page wsX0_at := goodIn_r _ [22, 18, 23, 13, 14, 15, 16, 17, 37, 38] (by decide +kernel) (by decide +kernel)
set_option maxRecDepth 20000 in
theorem gX3_page_X0_at : GoodIn wsX3_page (wsV RX3 127 RX0 yX0_at wsX0_at) := goodIn_app (goodIn_of _ (by decide +kernel)) ggX3_page_X0_at
theorem dX3_page_0 : decode cX3_page 0 = .ok (.aload_n 0, 1) := by decide +kernel
theorem dX3_page_1 : decode cX3_page 1 = .ok (.getfield 19, 3) := by decide +kernel
theorem dX3_page_4 : decode cX3_page 4 = .ok (.iload_n 1, 1) := by decide +kernel
theorem dX3_page_5 : decode cX3_page 5 = .ok (.invokevirtual 145, 3) := by decide +kernel
theorem dX3_page_8 : decode cX3_page 8 = .ok (.astore_n 3, 1) := by decide +kernel
theorem dX3_page_9 : decode cX3_page 9 = .ok (.aload_n 3, 1) := by decide +kernel
theorem dX3_page_10 : decode cX3_page 10 = .ok (.ifnull 11, 3) := by decide +kernel
theorem dX3_page_13 : decode cX3_page 13 = .ok (.aload_n 3, 1) := by decide +kernel
theorem dX3_page_14 : decode cX3_page 14 = .ok (.iload_n 2, 1) := by decide +kernel
theorem dX3_page_15 : decode cX3_page 15 = .ok (.invokevirtual 122, 3) := by decide +kernel
theorem dX3_page_18 : decode cX3_page 18 = .ok (.ifCond .ne 13, 3) := by decide +kernel
theorem dX3_page_21 : decode cX3_page 21 = .ok (.new 36, 3) := by decide +kernel
theorem dX3_page_24 : decode cX3_page 24 = .ok (.dup, 1) := by decide +kernel
theorem dX3_page_25 : decode cX3_page 25 = .ok (.ldc 149, 2) := by decide +kernel
theorem dX3_page_27 : decode cX3_page 27 = .ok (.invokespecial 40, 3) := by decide +kernel
theorem dX3_page_30 : decode cX3_page 30 = .ok (.athrow, 1) := by decide +kernel
theorem dX3_page_31 : decode cX3_page 31 = .ok (.aload_n 3, 1) := by decide +kernel
theorem dX3_page_32 : decode cX3_page 32 = .ok (.iload_n 2, 1) := by decide +kernel
theorem dX3_page_33 : decode cX3_page 33 = .ok (.invokevirtual 127, 3) := by decide +kernel
theorem dX3_page_36 : decode cX3_page 36 = .ok (.ireturn, 1) := by decide +kernel
set_option maxRecDepth 20000 in
theorem ggX3_length_X1_row : GoodIn wsX3_length wsX1_row := goodIn_r _ [8, 9, 10, 11, 28, 29, 30] (by decide +kernel) (by decide +kernel)
set_option maxRecDepth 20000 in
theorem gX3_length_X1_row : GoodIn wsX3_length (wsV RX3 145 RX1 yX1_row wsX1_row) := goodIn_app (goodIn_of _ (by decide +kernel)) ggX3_length_X1_row
set_option maxRecDepth 20000 in
theorem ggX3_length_X0_size : GoodIn wsX3_length wsX0_size := goodIn_r _ [16, 17, 31, 32] (by decide +kernel) (by decide +kernel)
set_option maxRecDepth 20000 in
theorem gX3_length_X0_size : GoodIn wsX3_length (wsV RX3 107 RX0 yX0_size wsX0_size) := goodIn_app (goodIn_of _ (by decide +kernel)) ggX3_length_X0_size
theorem dX3_length_0 : decode cX3_length 0 = .ok (.aload_n 0, 1) := by decide +kernel
theorem dX3_length_1 : decode cX3_length 1 = .ok (.getfield 19, 3) := by decide +kernel
theorem dX3_length_4 : decode cX3_length 4 = .ok (.iload_n 1, 1) := by decide +kernel
theorem dX3_length_5 : decode cX3_length 5 = .ok (.invokevirtual 145, 3) := by decide +kernel
theorem dX3_length_8 : decode cX3_length 8 = .ok (.astore_n 2, 1) := by decide +kernel
theorem dX3_length_9 : decode cX3_length 9 = .ok (.aload_n 2, 1) := by decide +kernel
theorem dX3_length_10 : decode cX3_length 10 = .ok (.ifnonnull 13, 3) := by decide +kernel
theorem dX3_length_13 : decode cX3_length 13 = .ok (.new 36, 3) := by decide +kernel
theorem dX3_length_16 : decode cX3_length 16 = .ok (.dup, 1) := by decide +kernel
theorem dX3_length_17 : decode cX3_length 17 = .ok (.ldc 151, 2) := by decide +kernel
theorem dX3_length_19 : decode cX3_length 19 = .ok (.invokespecial 40, 3) := by decide +kernel
theorem dX3_length_22 : decode cX3_length 22 = .ok (.athrow, 1) := by decide +kernel
theorem dX3_length_23 : decode cX3_length 23 = .ok (.aload_n 2, 1) := by decide +kernel
theorem dX3_length_24 : decode cX3_length 24 = .ok (.invokevirtual 107, 3) := by decide +kernel
theorem dX3_length_27 : decode cX3_length 27 = .ok (.ireturn, 1) := by decide +kernel
set_option maxRecDepth 20000 in
theorem ggX3_count_X3_counted : GoodIn wsX3_count wsX3_counted := goodIn_r _ [7, 8, 9, 10, 11, 12, 13, 14, 15, 16, 17, 18, 19, 20, 21, 22, 23, 24, 25, 26, 27, 28, 29, 30, 31, 32, 33, 34, 35, 36, 37, 38, 39, 40, 41, 42, 43, 44, 45, 46, 47, 48, 49, 50, 51, 52, 53, 54, 55, 56, 57, 58, 59, 60, 61, 62, 63, 64] (by decide +kernel) (by decide +kernel)
set_option maxRecDepth 20000 in
theorem gX3_count_X3_counted : GoodIn wsX3_count (wsV RX3 155 RX3 yX3_counted wsX3_counted) := goodIn_app (goodIn_of _ (by decide +kernel)) ggX3_count_X3_counted
theorem dX3_count_0 : decode cX3_count 0 = .ok (.iload_n 1, 1) := by decide +kernel
theorem dX3_count_1 : decode cX3_count 1 = .ok (.ifCond .lt 9, 3) := by decide +kernel
theorem dX3_count_4 : decode cX3_count 4 = .ok (.iload_n 1, 1) := by decide +kernel
theorem dX3_count_5 : decode cX3_count 5 = .ok (.bipush 10, 2) := by decide +kernel
theorem dX3_count_7 : decode cX3_count 7 = .ok (.if_icmp .le 13, 3) := by decide +kernel
theorem dX3_count_10 : decode cX3_count 10 = .ok (.new 36, 3) := by decide +kernel
theorem dX3_count_13 : decode cX3_count 13 = .ok (.dup, 1) := by decide +kernel
theorem dX3_count_14 : decode cX3_count 14 = .ok (.ldc 153, 2) := by decide +kernel
theorem dX3_count_16 : decode cX3_count 16 = .ok (.invokespecial 40, 3) := by decide +kernel
theorem dX3_count_19 : decode cX3_count 19 = .ok (.athrow, 1) := by decide +kernel
theorem dX3_count_20 : decode cX3_count 20 = .ok (.aload_n 0, 1) := by decide +kernel
theorem dX3_count_21 : decode cX3_count 21 = .ok (.iload_n 1, 1) := by decide +kernel
theorem dX3_count_22 : decode cX3_count 22 = .ok (.invokevirtual 155, 3) := by decide +kernel
theorem dX3_count_25 : decode cX3_count 25 = .ok (.ireturn, 1) := by decide +kernel
set_option maxRecDepth 20000 in
theorem ggX3_would_X3_isCode : GoodIn wsX3_would wsX3_isCode := goodIn_r _ [8] (by decide +kernel) (by decide +kernel)
set_option maxRecDepth 20000 in
theorem gX3_would_X3_isCode : GoodIn wsX3_would (va_wsS RX3 47 yX3_isCode wsX3_isCode) := goodIn_app (goodIn_of _ (by decide +kernel)) ggX3_would_X3_isCode
set_option maxRecDepth 20000 in
theorem ggX3_would_X2_readAs : GoodIn wsX3_would wsX2_readAs := goodIn_r _ [13, 14, 15, 16, 17, 18, 19, 20, 21, 22, 23, 24, 25, 26, 27, 38, 39, 40, 41, 42] (by decide +kernel) (by decide +kernel)
set_option maxRecDepth 20000 in
theorem gX3_would_X2_readAs : GoodIn wsX3_would (wsV RX3 161 RX2 yX2_readAs wsX2_readAs) := goodIn_app (goodIn_of _ (by decide +kernel)) ggX3_would_X2_readAs
theorem dX3_would_0 : decode cX3_would 0 = .ok (.iload_n 1, 1) := by decide +kernel
theorem dX3_would_1 : decode cX3_would 1 = .ok (.invokestatic 47, 3) := by decide +kernel
theorem dX3_would_4 : decode cX3_would 4 = .ok (.ifCond .ne 13, 3) := by decide +kernel
theorem dX3_would_7 : decode cX3_would 7 = .ok (.new 36, 3) := by decide +kernel
theorem dX3_would_10 : decode cX3_would 10 = .ok (.dup, 1) := by decide +kernel
theorem dX3_would_11 : decode cX3_would 11 = .ok (.ldc 50, 2) := by decide +kernel
theorem dX3_would_13 : decode cX3_would 13 = .ok (.invokespecial 40, 3) := by decide +kernel
theorem dX3_would_16 : decode cX3_would 16 = .ok (.athrow, 1) := by decide +kernel
theorem dX3_would_17 : decode cX3_would 17 = .ok (.aload_n 0, 1) := by decide +kernel
theorem dX3_would_18 : decode cX3_would 18 = .ok (.getfield 10, 3) := by decide +kernel
theorem dX3_would_21 : decode cX3_would 21 = .ok (.iload_n 1, 1) := by decide +kernel
theorem dX3_would_22 : decode cX3_would 22 = .ok (.aload_n 0, 1) := by decide +kernel
theorem dX3_would_23 : decode cX3_would 23 = .ok (.getfield 158, 3) := by decide +kernel
theorem dX3_would_26 : decode cX3_would 26 = .ok (.invokevirtual 161, 3) := by decide +kernel
theorem dX3_would_29 : decode cX3_would 29 = .ok (.ireturn, 1) := by decide +kernel
set_option maxRecDepth 20000 in
theorem ggX3_wrong_X0_size : GoodIn wsX3_wrong wsX0_size := goodIn_r _ [9, 10, 39, 40] (by decide +kernel) (by decide +kernel)
set_option maxRecDepth 20000 in
theorem gX3_wrong_X0_size : GoodIn wsX3_wrong (wsV RX3 107 RX0 yX0_size wsX0_size) := goodIn_app (goodIn_of _ (by decide +kernel)) ggX3_wrong_X0_size
set_option maxRecDepth 20000 in
theorem ggX3_wrong_X0_at : GoodIn wsX3_wrong wsX0_at := goodIn_r _ [14, 15, 16, 17, 18, 8, 19, 10, 39, 40] (by decide +kernel) (by decide +kernel)
set_option maxRecDepth 20000 in
theorem gX3_wrong_X0_at : GoodIn wsX3_wrong (wsV RX3 127 RX0 yX0_at wsX0_at) := goodIn_app (goodIn_of _ (by decide +kernel)) ggX3_wrong_X0_at
set_option maxRecDepth 20000 in
theorem ggX3_wrong_X2_readAs : GoodIn wsX3_wrong wsX2_readAs := goodIn_r _ [24, 25, 26, 27, 28, 12, 13, 8, 14, 15, 16, 17, 18, 19, 10, 41, 42, 43, 39, 40] (by decide +kernel) (by decide +kernel)
set_option maxRecDepth 20000 in
theorem gX3_wrong_X2_readAs : GoodIn wsX3_wrong (wsV RX3 161 RX2 yX2_readAs wsX2_readAs) := goodIn_app (goodIn_of _ (by decide +kernel)) ggX3_wrong_X2_readAs
theorem dX3_wrong_0 : decode cX3_wrong 0 = .ok (.iconst 0, 1) := by decide +kernel
theorem dX3_wrong_1 : decode cX3_wrong 1 = .ok (.istore_n 1, 1) := by decide +kernel
theorem dX3_wrong_2 : decode cX3_wrong 2 = .ok (.aload_n 0, 1) := by decide +kernel
theorem dX3_wrong_3 : decode cX3_wrong 3 = .ok (.getfield 135, 3) := by decide +kernel
theorem dX3_wrong_6 : decode cX3_wrong 6 = .ok (.istore_n 2, 1) := by decide +kernel
theorem dX3_wrong_7 : decode cX3_wrong 7 = .ok (.iload_n 2, 1) := by decide +kernel
theorem dX3_wrong_8 : decode cX3_wrong 8 = .ok (.aload_n 0, 1) := by decide +kernel
theorem dX3_wrong_9 : decode cX3_wrong 9 = .ok (.getfield 28, 3) := by decide +kernel
theorem dX3_wrong_12 : decode cX3_wrong 12 = .ok (.invokevirtual 107, 3) := by decide +kernel
theorem dX3_wrong_15 : decode cX3_wrong 15 = .ok (.if_icmp .ge 44, 3) := by decide +kernel
theorem dX3_wrong_18 : decode cX3_wrong 18 = .ok (.aload_n 0, 1) := by decide +kernel
theorem dX3_wrong_19 : decode cX3_wrong 19 = .ok (.getfield 28, 3) := by decide +kernel
theorem dX3_wrong_22 : decode cX3_wrong 22 = .ok (.iload_n 2, 1) := by decide +kernel
theorem dX3_wrong_23 : decode cX3_wrong 23 = .ok (.invokevirtual 127, 3) := by decide +kernel
theorem dX3_wrong_26 : decode cX3_wrong 26 = .ok (.istore_n 3, 1) := by decide +kernel
theorem dX3_wrong_27 : decode cX3_wrong 27 = .ok (.aload_n 0, 1) := by decide +kernel
theorem dX3_wrong_28 : decode cX3_wrong 28 = .ok (.getfield 10, 3) := by decide +kernel
theorem dX3_wrong_31 : decode cX3_wrong 31 = .ok (.iload_n 3, 1) := by decide +kernel
theorem dX3_wrong_32 : decode cX3_wrong 32 = .ok (.aload_n 0, 1) := by decide +kernel
theorem dX3_wrong_33 : decode cX3_wrong 33 = .ok (.getfield 158, 3) := by decide +kernel
theorem dX3_wrong_36 : decode cX3_wrong 36 = .ok (.iload_n 2, 1) := by decide +kernel
theorem dX3_wrong_37 : decode cX3_wrong 37 = .ok (.iadd, 1) := by decide +kernel
theorem dX3_wrong_38 : decode cX3_wrong 38 = .ok (.aload_n 0, 1) := by decide +kernel
theorem dX3_wrong_39 : decode cX3_wrong 39 = .ok (.getfield 135, 3) := by decide +kernel
theorem dX3_wrong_42 : decode cX3_wrong 42 = .ok (.isub, 1) := by decide +kernel
theorem dX3_wrong_43 : decode cX3_wrong 43 = .ok (.invokevirtual 161, 3) := by decide +kernel
theorem dX3_wrong_46 : decode cX3_wrong 46 = .ok (.iload_n 3, 1) := by decide +kernel
theorem dX3_wrong_47 : decode cX3_wrong 47 = .ok (.if_icmp .eq 6, 3) := by decide +kernel
theorem dX3_wrong_50 : decode cX3_wrong 50 = .ok (.iinc 1 1, 3) := by decide +kernel
theorem dX3_wrong_53 : decode cX3_wrong 53 = .ok (.iinc 2 1, 3) := by decide +kernel
theorem dX3_wrong_56 : decode cX3_wrong 56 = .ok (.goto (-49), 3) := by decide +kernel
theorem dX3_wrong_59 : decode cX3_wrong 59 = .ok (.iload_n 1, 1) := by decide +kernel
theorem dX3_wrong_60 : decode cX3_wrong 60 = .ok (.ireturn, 1) := by decide +kernel
set_option maxRecDepth 20000 in
theorem ggX3_idle_X0_size : GoodIn wsX3_idle wsX0_size := goodIn_r _ [6, 7, 51, 52] (by decide +kernel) (by decide +kernel)
set_option maxRecDepth 20000 in
theorem gX3_idle_X0_size : GoodIn wsX3_idle (wsV RX3 107 RX0 yX0_size wsX0_size) := goodIn_app (goodIn_of _ (by decide +kernel)) ggX3_idle_X0_size
set_option maxRecDepth 20000 in
theorem ggX3_idle_X0_at : GoodIn wsX3_idle wsX0_at := goodIn_r _ [11, 12, 13, 14, 15, 5, 16, 7, 51, 52] (by decide +kernel) (by decide +kernel)
set_option maxRecDepth 20000 in
theorem gX3_idle_X0_at : GoodIn wsX3_idle (wsV RX3 127 RX0 yX0_at wsX0_at) := goodIn_app (goodIn_of _ (by decide +kernel)) ggX3_idle_X0_at
set_option maxRecDepth 20000 in
theorem ggX3_idle_X3_figuresBehind : GoodIn wsX3_idle wsX3_figuresBehind := goodIn_r _ [21, 22, 23, 24, 20, 25, 26, 41, 42, 43, 44, 45, 46, 47, 48, 49, 50] (by decide +kernel) (by decide +kernel)
set_option maxRecDepth 20000 in
theorem gX3_idle_X3_figuresBehind : GoodIn wsX3_idle (wsV RX3 164 RX3 yX3_figuresBehind wsX3_figuresBehind) := goodIn_app (goodIn_of _ (by decide +kernel)) ggX3_idle_X3_figuresBehind
set_option maxRecDepth 20000 in
theorem ggX3_idle_X3_isShift : GoodIn wsX3_idle wsX3_isShift := goodIn_r _ [29] (by decide +kernel) (by decide +kernel)
set_option maxRecDepth 20000 in
theorem gX3_idle_X3_isShift : GoodIn wsX3_idle (va_wsS RX3 168 yX3_isShift wsX3_isShift) := goodIn_app (goodIn_of _ (by decide +kernel)) ggX3_idle_X3_isShift
set_option maxRecDepth 20000 in
theorem ggX3_idle_X3_servesBehind : GoodIn wsX3_idle wsX3_servesBehind := goodIn_r _ [33, 1, 2, 3, 4, 5, 6, 7, 8, 9, 10, 11, 12, 13, 14, 15, 16, 34, 35, 20, 36, 37, 38, 39, 40, 22, 23, 24, 25, 26, 41, 42, 43, 44, 45, 46, 47, 48, 49, 50, 51, 52] (by decide +kernel) (by decide +kernel)
set_option maxRecDepth 20000 in
theorem gX3_idle_X3_servesBehind : GoodIn wsX3_idle (wsV RX3 171 RX3 yX3_servesBehind wsX3_servesBehind) := goodIn_app (goodIn_of _ (by decide +kernel)) ggX3_idle_X3_servesBehind
theorem dX3_idle_0 : decode cX3_idle 0 = .ok (.iconst 0, 1) := by decide +kernel
theorem dX3_idle_1 : decode cX3_idle 1 = .ok (.istore_n 1, 1) := by decide +kernel
theorem dX3_idle_2 : decode cX3_idle 2 = .ok (.iconst 0, 1) := by decide +kernel
theorem dX3_idle_3 : decode cX3_idle 3 = .ok (.istore_n 2, 1) := by decide +kernel
theorem dX3_idle_4 : decode cX3_idle 4 = .ok (.iconst 0, 1) := by decide +kernel
theorem dX3_idle_5 : decode cX3_idle 5 = .ok (.istore_n 3, 1) := by decide +kernel
theorem dX3_idle_6 : decode cX3_idle 6 = .ok (.iload_n 3, 1) := by decide +kernel
theorem dX3_idle_7 : decode cX3_idle 7 = .ok (.aload_n 0, 1) := by decide +kernel
theorem dX3_idle_8 : decode cX3_idle 8 = .ok (.getfield 28, 3) := by decide +kernel
theorem dX3_idle_11 : decode cX3_idle 11 = .ok (.invokevirtual 107, 3) := by decide +kernel
theorem dX3_idle_14 : decode cX3_idle 14 = .ok (.if_icmp .ge 56, 3) := by decide +kernel
theorem dX3_idle_17 : decode cX3_idle 17 = .ok (.aload_n 0, 1) := by decide +kernel
theorem dX3_idle_18 : decode cX3_idle 18 = .ok (.getfield 28, 3) := by decide +kernel
theorem dX3_idle_21 : decode cX3_idle 21 = .ok (.iload_n 3, 1) := by decide +kernel
theorem dX3_idle_22 : decode cX3_idle 22 = .ok (.invokevirtual 127, 3) := by decide +kernel
theorem dX3_idle_25 : decode cX3_idle 25 = .ok (.istore 4, 2) := by decide +kernel
theorem dX3_idle_27 : decode cX3_idle 27 = .ok (.aload_n 0, 1) := by decide +kernel
theorem dX3_idle_28 : decode cX3_idle 28 = .ok (.iload 4, 2) := by decide +kernel
theorem dX3_idle_30 : decode cX3_idle 30 = .ok (.iload_n 2, 1) := by decide +kernel
theorem dX3_idle_31 : decode cX3_idle 31 = .ok (.invokevirtual 164, 3) := by decide +kernel
theorem dX3_idle_34 : decode cX3_idle 34 = .ok (.istore 5, 2) := by decide +kernel
theorem dX3_idle_36 : decode cX3_idle 36 = .ok (.iload 4, 2) := by decide +kernel
theorem dX3_idle_38 : decode cX3_idle 38 = .ok (.invokestatic 168, 3) := by decide +kernel
theorem dX3_idle_41 : decode cX3_idle 41 = .ok (.ifCond .eq 20, 3) := by decide +kernel
theorem dX3_idle_44 : decode cX3_idle 44 = .ok (.iload 5, 2) := by decide +kernel
theorem dX3_idle_46 : decode cX3_idle 46 = .ok (.iload_n 2, 1) := by decide +kernel
theorem dX3_idle_47 : decode cX3_idle 47 = .ok (.if_icmp .eq 11, 3) := by decide +kernel
theorem dX3_idle_50 : decode cX3_idle 50 = .ok (.aload_n 0, 1) := by decide +kernel
theorem dX3_idle_51 : decode cX3_idle 51 = .ok (.iload_n 3, 1) := by decide +kernel
theorem dX3_idle_52 : decode cX3_idle 52 = .ok (.invokevirtual 171, 3) := by decide +kernel
theorem dX3_idle_55 : decode cX3_idle 55 = .ok (.ifCond .ne 6, 3) := by decide +kernel
theorem dX3_idle_58 : decode cX3_idle 58 = .ok (.iinc 1 1, 3) := by decide +kernel
theorem dX3_idle_61 : decode cX3_idle 61 = .ok (.iload 5, 2) := by decide +kernel
theorem dX3_idle_63 : decode cX3_idle 63 = .ok (.istore_n 2, 1) := by decide +kernel
theorem dX3_idle_64 : decode cX3_idle 64 = .ok (.iinc 3 1, 3) := by decide +kernel
theorem dX3_idle_67 : decode cX3_idle 67 = .ok (.goto (-61), 3) := by decide +kernel
theorem dX3_idle_70 : decode cX3_idle 70 = .ok (.iload_n 1, 1) := by decide +kernel
theorem dX3_idle_71 : decode cX3_idle 71 = .ok (.ireturn, 1) := by decide +kernel
set_option maxRecDepth 20000 in
theorem ggX3_prints_X0_has : GoodIn wsX3_prints wsX0_has := goodIn_r _ [8, 9, 10, 54, 55] (by decide +kernel) (by decide +kernel)
set_option maxRecDepth 20000 in
theorem gX3_prints_X0_has : GoodIn wsX3_prints (wsV RX3 122 RX0 yX0_has wsX0_has) := goodIn_app (goodIn_of _ (by decide +kernel)) ggX3_prints_X0_has
set_option maxRecDepth 20000 in
theorem ggX3_prints_X0_at : GoodIn wsX3_prints wsX0_at := goodIn_r _ [14, 10, 15, 5, 6, 7, 8, 9, 54, 55] (by decide +kernel) (by decide +kernel)
set_option maxRecDepth 20000 in
theorem gX3_prints_X0_at : GoodIn wsX3_prints (wsV RX3 127 RX0 yX0_at wsX0_at) := goodIn_app (goodIn_of _ (by decide +kernel)) ggX3_prints_X0_at
set_option maxRecDepth 20000 in
theorem ggX3_prints_X3_figuresAhead : GoodIn wsX3_prints wsX3_figuresAhead := goodIn_r _ [20, 3, 21, 22, 23, 7, 24, 9, 11, 12, 13, 14, 10, 15, 5, 6, 8, 25, 26, 27, 19, 28, 29, 30, 31, 32, 33, 44, 45, 46, 47, 48, 49, 50, 51, 52, 53, 54, 55] (by decide +kernel) (by decide +kernel)
set_option maxRecDepth 20000 in
theorem gX3_prints_X3_figuresAhead : GoodIn wsX3_prints (wsV RX3 174 RX3 yX3_figuresAhead wsX3_figuresAhead) := goodIn_app (goodIn_of _ (by decide +kernel)) ggX3_prints_X3_figuresAhead
set_option maxRecDepth 20000 in
theorem ggX3_prints_X3_characterOf : GoodIn wsX3_prints wsX3_characterOf := goodIn_r _ [36, 37, 38, 19, 39, 40, 41, 42, 43] (by decide +kernel) (by decide +kernel)
set_option maxRecDepth 20000 in
theorem gX3_prints_X3_characterOf : GoodIn wsX3_prints (va_wsS RX3 52 yX3_characterOf wsX3_characterOf) := goodIn_app (goodIn_of _ (by decide +kernel)) ggX3_prints_X3_characterOf
theorem dX3_prints_0 : decode cX3_prints 0 = .ok (.aload_n 0, 1) := by decide +kernel
theorem dX3_prints_1 : decode cX3_prints 1 = .ok (.getfield 28, 3) := by decide +kernel
theorem dX3_prints_4 : decode cX3_prints 4 = .ok (.iload_n 1, 1) := by decide +kernel
theorem dX3_prints_5 : decode cX3_prints 5 = .ok (.invokevirtual 122, 3) := by decide +kernel
theorem dX3_prints_8 : decode cX3_prints 8 = .ok (.ifCond .ne 13, 3) := by decide +kernel
theorem dX3_prints_11 : decode cX3_prints 11 = .ok (.new 36, 3) := by decide +kernel
theorem dX3_prints_14 : decode cX3_prints 14 = .ok (.dup, 1) := by decide +kernel
theorem dX3_prints_15 : decode cX3_prints 15 = .ok (.ldc 125, 2) := by decide +kernel
theorem dX3_prints_17 : decode cX3_prints 17 = .ok (.invokespecial 40, 3) := by decide +kernel
theorem dX3_prints_20 : decode cX3_prints 20 = .ok (.athrow, 1) := by decide +kernel
theorem dX3_prints_21 : decode cX3_prints 21 = .ok (.aload_n 0, 1) := by decide +kernel
theorem dX3_prints_22 : decode cX3_prints 22 = .ok (.getfield 28, 3) := by decide +kernel
theorem dX3_prints_25 : decode cX3_prints 25 = .ok (.iload_n 1, 1) := by decide +kernel
theorem dX3_prints_26 : decode cX3_prints 26 = .ok (.invokevirtual 127, 3) := by decide +kernel
theorem dX3_prints_29 : decode cX3_prints 29 = .ok (.aload_n 0, 1) := by decide +kernel
theorem dX3_prints_30 : decode cX3_prints 30 = .ok (.iload_n 1, 1) := by decide +kernel
theorem dX3_prints_31 : decode cX3_prints 31 = .ok (.invokevirtual 174, 3) := by decide +kernel
theorem dX3_prints_34 : decode cX3_prints 34 = .ok (.invokestatic 52, 3) := by decide +kernel
theorem dX3_prints_37 : decode cX3_prints 37 = .ok (.ireturn, 1) := by decide +kernel
set_option maxRecDepth 20000 in
theorem ggX3_mean_X1_lines : GoodIn wsX3_mean wsX1_lines := goodIn_r _ [6, 7, 34, 35, 36] (by decide +kernel) (by decide +kernel)
set_option maxRecDepth 20000 in
theorem gX3_mean_X1_lines : GoodIn wsX3_mean (wsV RX3 177 RX1 yX1_lines wsX1_lines) := goodIn_app (goodIn_of _ (by decide +kernel)) ggX3_mean_X1_lines
set_option maxRecDepth 20000 in
theorem ggX3_mean_X1_characters : GoodIn wsX3_mean wsX1_characters := goodIn_r _ [11, 7, 12, 13, 14, 5, 15, 16, 17, 18, 19, 20, 21, 22, 23, 34, 35, 36, 37, 38] (by decide +kernel) (by decide +kernel)
set_option maxRecDepth 20000 in
theorem gX3_mean_X1_characters : GoodIn wsX3_mean (wsV RX3 180 RX1 yX1_characters wsX1_characters) := goodIn_app (goodIn_of _ (by decide +kernel)) ggX3_mean_X1_characters
theorem dX3_mean_0 : decode cX3_mean 0 = .ok (.aload_n 0, 1) := by decide +kernel
theorem dX3_mean_1 : decode cX3_mean 1 = .ok (.getfield 19, 3) := by decide +kernel
theorem dX3_mean_4 : decode cX3_mean 4 = .ok (.invokevirtual 177, 3) := by decide +kernel
theorem dX3_mean_7 : decode cX3_mean 7 = .ok (.istore_n 1, 1) := by decide +kernel
theorem dX3_mean_8 : decode cX3_mean 8 = .ok (.iload_n 1, 1) := by decide +kernel
theorem dX3_mean_9 : decode cX3_mean 9 = .ok (.iconst 1, 1) := by decide +kernel
theorem dX3_mean_10 : decode cX3_mean 10 = .ok (.if_icmp .ge 7, 3) := by decide +kernel
theorem dX3_mean_13 : decode cX3_mean 13 = .ok (.dconst 0, 1) := by decide +kernel
theorem dX3_mean_14 : decode cX3_mean 14 = .ok (.goto 14, 3) := by decide +kernel
theorem dX3_mean_17 : decode cX3_mean 17 = .ok (.aload_n 0, 1) := by decide +kernel
theorem dX3_mean_18 : decode cX3_mean 18 = .ok (.getfield 19, 3) := by decide +kernel
theorem dX3_mean_21 : decode cX3_mean 21 = .ok (.invokevirtual 180, 3) := by decide +kernel
theorem dX3_mean_24 : decode cX3_mean 24 = .ok (.i2d, 1) := by decide +kernel
theorem dX3_mean_25 : decode cX3_mean 25 = .ok (.iload_n 1, 1) := by decide +kernel
theorem dX3_mean_26 : decode cX3_mean 26 = .ok (.i2d, 1) := by decide +kernel
theorem dX3_mean_27 : decode cX3_mean 27 = .ok (.ddiv, 1) := by decide +kernel
theorem dX3_mean_28 : decode cX3_mean 28 = .ok (.dreturn, 1) := by decide +kernel
set_option maxRecDepth 20000 in
theorem ggX3_digest_X3_counted : GoodIn wsX3_digest wsX3_counted := goodIn_r _ [9, 3, 10, 2, 4, 11, 12, 13, 14, 15, 16, 17, 18, 19, 20, 21, 22, 23, 24, 25, 26, 27, 28, 29, 30, 31, 32, 33, 34, 35, 36, 37, 38, 39, 40, 41, 42, 43, 44, 45, 74, 75, 76, 77, 78, 79, 80, 81, 82, 83, 84, 85, 86, 87, 88, 89, 90, 91] (by decide +kernel) (by decide +kernel)
set_option maxRecDepth 20000 in
theorem gX3_digest_X3_counted : GoodIn wsX3_digest (wsV RX3 155 RX3 yX3_counted wsX3_counted) := goodIn_app (goodIn_of _ (by decide +kernel)) ggX3_digest_X3_counted
set_option maxRecDepth 20000 in
theorem ggX3_digest_X3_mixed : GoodIn wsX3_digest wsX3_mixed := goodIn_r _ [48, 49] (by decide +kernel) (by decide +kernel)
set_option maxRecDepth 20000 in
theorem gX3_digest_X3_mixed : GoodIn wsX3_digest (va_wsS RX3 185 yX3_mixed wsX3_mixed) := goodIn_app (goodIn_of _ (by decide +kernel)) ggX3_digest_X3_mixed
set_option maxRecDepth 20000 in
theorem ggX3_digest_X2_lateAt : GoodIn wsX3_digest wsX2_lateAt := goodIn_r _ [53, 54, 55, 56, 57, 36, 58, 59, 60, 61, 62, 63, 38, 89, 90, 91, 87, 88] (by decide +kernel) (by decide +kernel)
set_option maxRecDepth 20000 in
theorem gX3_digest_X2_lateAt : GoodIn wsX3_digest (wsV RX3 74 RX2 yX2_lateAt wsX2_lateAt) := goodIn_app (goodIn_of _ (by decide +kernel)) ggX3_digest_X2_lateAt
set_option maxRecDepth 20000 in
theorem ggX3_digest_X2_garbledAt : GoodIn wsX3_digest wsX2_garbledAt := goodIn_r _ [67, 68, 55, 56, 57, 36, 58, 59, 60, 61, 62, 63, 38, 89, 90, 91, 87, 88] (by decide +kernel) (by decide +kernel)
set_option maxRecDepth 20000 in
theorem gX3_digest_X2_garbledAt : GoodIn wsX3_digest (wsV RX3 189 RX2 yX2_garbledAt wsX2_garbledAt) := goodIn_app (goodIn_of _ (by decide +kernel)) ggX3_digest_X2_garbledAt
set_option maxRecDepth 20000 in
theorem ggX3_digest_X1_lines : GoodIn wsX3_digest wsX1_lines := goodIn_r _ [21, 22, 84, 85, 86] (by decide +kernel) (by decide +kernel)
set_option maxRecDepth 20000 in
theorem gX3_digest_X1_lines : GoodIn wsX3_digest (wsV RX3 177 RX1 yX1_lines wsX1_lines) := goodIn_app (goodIn_of _ (by decide +kernel)) ggX3_digest_X1_lines
set_option maxRecDepth 20000 in
theorem ggX3_digest_X1_row : GoodIn wsX3_digest wsX1_row := goodIn_r _ [30, 22, 31, 32, 84, 85, 86] (by decide +kernel) (by decide +kernel)
set_option maxRecDepth 20000 in
theorem gX3_digest_X1_row : GoodIn wsX3_digest (wsV RX3 145 RX1 yX1_row wsX1_row) := goodIn_app (goodIn_of _ (by decide +kernel)) ggX3_digest_X1_row
set_option maxRecDepth 20000 in
theorem ggX3_digest_X0_size : GoodIn wsX3_digest wsX0_size := goodIn_r _ [37, 38, 87, 88] (by decide +kernel) (by decide +kernel)
set_option maxRecDepth 20000 in
theorem gX3_digest_X0_size : GoodIn wsX3_digest (wsV RX3 107 RX0 yX0_size wsX0_size) := goodIn_app (goodIn_of _ (by decide +kernel)) ggX3_digest_X0_size
set_option maxRecDepth 20000 in
theorem ggX3_digest_X3_mixedRow : GoodIn wsX3_digest wsX3_mixedRow := goodIn_r _ [72, 45, 34, 35, 36, 37, 38, 73, 56, 57, 58, 59, 60, 61, 62, 63, 46, 47, 8, 48, 49, 87, 88] (by decide +kernel) (by decide +kernel)
set_option maxRecDepth 20000 in
theorem gX3_digest_X3_mixedRow : GoodIn wsX3_digest (va_wsS RX3 192 yX3_mixedRow wsX3_mixedRow) := goodIn_app (goodIn_of _ (by decide +kernel)) ggX3_digest_X3_mixedRow
theorem dX3_digest_0 : decode cX3_digest 0 = .ok (.ldc2_w 183, 3) := by decide +kernel
theorem dX3_digest_3 : decode cX3_digest 3 = .ok (.lstore_n 1, 1) := by decide +kernel
theorem dX3_digest_4 : decode cX3_digest 4 = .ok (.iconst 0, 1) := by decide +kernel
theorem dX3_digest_5 : decode cX3_digest 5 = .ok (.istore_n 3, 1) := by decide +kernel
theorem dX3_digest_6 : decode cX3_digest 6 = .ok (.iload_n 3, 1) := by decide +kernel
theorem dX3_digest_7 : decode cX3_digest 7 = .ok (.bipush 10, 2) := by decide +kernel
theorem dX3_digest_9 : decode cX3_digest 9 = .ok (.if_icmp .gt 19, 3) := by decide +kernel
theorem dX3_digest_12 : decode cX3_digest 12 = .ok (.lload_n 1, 1) := by decide +kernel
theorem dX3_digest_13 : decode cX3_digest 13 = .ok (.aload_n 0, 1) := by decide +kernel
theorem dX3_digest_14 : decode cX3_digest 14 = .ok (.iload_n 3, 1) := by decide +kernel
theorem dX3_digest_15 : decode cX3_digest 15 = .ok (.invokevirtual 155, 3) := by decide +kernel
theorem dX3_digest_18 : decode cX3_digest 18 = .ok (.invokestatic 185, 3) := by decide +kernel
theorem dX3_digest_21 : decode cX3_digest 21 = .ok (.lstore_n 1, 1) := by decide +kernel
theorem dX3_digest_22 : decode cX3_digest 22 = .ok (.iinc 3 1, 3) := by decide +kernel
theorem dX3_digest_25 : decode cX3_digest 25 = .ok (.goto (-19), 3) := by decide +kernel
theorem dX3_digest_28 : decode cX3_digest 28 = .ok (.iconst 0, 1) := by decide +kernel
theorem dX3_digest_29 : decode cX3_digest 29 = .ok (.istore_n 3, 1) := by decide +kernel
theorem dX3_digest_30 : decode cX3_digest 30 = .ok (.iload_n 3, 1) := by decide +kernel
theorem dX3_digest_31 : decode cX3_digest 31 = .ok (.bipush 16, 2) := by decide +kernel
theorem dX3_digest_33 : decode cX3_digest 33 = .ok (.if_icmp .ge 35, 3) := by decide +kernel
theorem dX3_digest_36 : decode cX3_digest 36 = .ok (.lload_n 1, 1) := by decide +kernel
theorem dX3_digest_37 : decode cX3_digest 37 = .ok (.aload_n 0, 1) := by decide +kernel
theorem dX3_digest_38 : decode cX3_digest 38 = .ok (.getfield 10, 3) := by decide +kernel
theorem dX3_digest_41 : decode cX3_digest 41 = .ok (.iload_n 3, 1) := by decide +kernel
theorem dX3_digest_42 : decode cX3_digest 42 = .ok (.invokevirtual 74, 3) := by decide +kernel
theorem dX3_digest_45 : decode cX3_digest 45 = .ok (.invokestatic 185, 3) := by decide +kernel
theorem dX3_digest_48 : decode cX3_digest 48 = .ok (.lstore_n 1, 1) := by decide +kernel
theorem dX3_digest_49 : decode cX3_digest 49 = .ok (.lload_n 1, 1) := by decide +kernel
theorem dX3_digest_50 : decode cX3_digest 50 = .ok (.aload_n 0, 1) := by decide +kernel
theorem dX3_digest_51 : decode cX3_digest 51 = .ok (.getfield 10, 3) := by decide +kernel
theorem dX3_digest_54 : decode cX3_digest 54 = .ok (.iload_n 3, 1) := by decide +kernel
theorem dX3_digest_55 : decode cX3_digest 55 = .ok (.invokevirtual 189, 3) := by decide +kernel
theorem dX3_digest_58 : decode cX3_digest 58 = .ok (.invokestatic 185, 3) := by decide +kernel
theorem dX3_digest_61 : decode cX3_digest 61 = .ok (.lstore_n 1, 1) := by decide +kernel
theorem dX3_digest_62 : decode cX3_digest 62 = .ok (.iinc 3 1, 3) := by decide +kernel
theorem dX3_digest_65 : decode cX3_digest 65 = .ok (.goto (-35), 3) := by decide +kernel
theorem dX3_digest_68 : decode cX3_digest 68 = .ok (.iconst 0, 1) := by decide +kernel
theorem dX3_digest_69 : decode cX3_digest 69 = .ok (.istore_n 3, 1) := by decide +kernel
theorem dX3_digest_70 : decode cX3_digest 70 = .ok (.iload_n 3, 1) := by decide +kernel
theorem dX3_digest_71 : decode cX3_digest 71 = .ok (.aload_n 0, 1) := by decide +kernel
theorem dX3_digest_72 : decode cX3_digest 72 = .ok (.getfield 19, 3) := by decide +kernel
theorem dX3_digest_75 : decode cX3_digest 75 = .ok (.invokevirtual 177, 3) := by decide +kernel
theorem dX3_digest_78 : decode cX3_digest 78 = .ok (.if_icmp .ge 39, 3) := by decide +kernel
theorem dX3_digest_81 : decode cX3_digest 81 = .ok (.aload_n 0, 1) := by decide +kernel
theorem dX3_digest_82 : decode cX3_digest 82 = .ok (.getfield 19, 3) := by decide +kernel
theorem dX3_digest_85 : decode cX3_digest 85 = .ok (.iload_n 3, 1) := by decide +kernel
theorem dX3_digest_86 : decode cX3_digest 86 = .ok (.invokevirtual 145, 3) := by decide +kernel
theorem dX3_digest_89 : decode cX3_digest 89 = .ok (.astore 4, 2) := by decide +kernel
theorem dX3_digest_91 : decode cX3_digest 91 = .ok (.aload 4, 2) := by decide +kernel
theorem dX3_digest_93 : decode cX3_digest 93 = .ok (.ifnull 18, 3) := by decide +kernel
theorem dX3_digest_96 : decode cX3_digest 96 = .ok (.lload_n 1, 1) := by decide +kernel
theorem dX3_digest_97 : decode cX3_digest 97 = .ok (.aload 4, 2) := by decide +kernel
theorem dX3_digest_99 : decode cX3_digest 99 = .ok (.invokevirtual 107, 3) := by decide +kernel
theorem dX3_digest_102 : decode cX3_digest 102 = .ok (.invokestatic 185, 3) := by decide +kernel
theorem dX3_digest_105 : decode cX3_digest 105 = .ok (.aload 4, 2) := by decide +kernel
theorem dX3_digest_107 : decode cX3_digest 107 = .ok (.invokestatic 192, 3) := by decide +kernel
theorem dX3_digest_110 : decode cX3_digest 110 = .ok (.lstore_n 1, 1) := by decide +kernel
theorem dX3_digest_111 : decode cX3_digest 111 = .ok (.iinc 3 1, 3) := by decide +kernel
theorem dX3_digest_114 : decode cX3_digest 114 = .ok (.goto (-44), 3) := by decide +kernel
theorem dX3_digest_117 : decode cX3_digest 117 = .ok (.lload_n 1, 1) := by decide +kernel
theorem dX3_digest_118 : decode cX3_digest 118 = .ok (.aload_n 0, 1) := by decide +kernel
theorem dX3_digest_119 : decode cX3_digest 119 = .ok (.getfield 28, 3) := by decide +kernel
theorem dX3_digest_122 : decode cX3_digest 122 = .ok (.invokestatic 192, 3) := by decide +kernel
theorem dX3_digest_125 : decode cX3_digest 125 = .ok (.lreturn, 1) := by decide +kernel
theorem dX3_mixed_0 : decode cX3_mixed 0 = .ok (.lload_n 0, 1) := by decide +kernel
theorem dX3_mixed_1 : decode cX3_mixed 1 = .ok (.ldc2_w 196, 3) := by decide +kernel
theorem dX3_mixed_4 : decode cX3_mixed 4 = .ok (.lmul, 1) := by decide +kernel
theorem dX3_mixed_5 : decode cX3_mixed 5 = .ok (.iload_n 2, 1) := by decide +kernel
theorem dX3_mixed_6 : decode cX3_mixed 6 = .ok (.i2l, 1) := by decide +kernel
theorem dX3_mixed_7 : decode cX3_mixed 7 = .ok (.ladd, 1) := by decide +kernel
theorem dX3_mixed_8 : decode cX3_mixed 8 = .ok (.lreturn, 1) := by decide +kernel
set_option maxRecDepth 20000 in
theorem ggX3_mixedRow_X0_size : GoodIn wsX3_mixedRow wsX0_size := goodIn_r _ [5, 6, 21, 22] (by decide +kernel) (by decide +kernel)
set_option maxRecDepth 20000 in
theorem gX3_mixedRow_X0_size : GoodIn wsX3_mixedRow (wsV RX3 107 RX0 yX0_size wsX0_size) := goodIn_app (goodIn_of _ (by decide +kernel)) ggX3_mixedRow_X0_size
set_option maxRecDepth 20000 in
theorem ggX3_mixedRow_X0_at : GoodIn wsX3_mixedRow wsX0_at := goodIn_r _ [10, 11, 12, 13, 14, 4, 15, 6, 21, 22] (by decide +kernel) (by decide +kernel)
set_option maxRecDepth 20000 in
theorem gX3_mixedRow_X0_at : GoodIn wsX3_mixedRow (wsV RX3 127 RX0 yX0_at wsX0_at) := goodIn_app (goodIn_of _ (by decide +kernel)) ggX3_mixedRow_X0_at
set_option maxRecDepth 20000 in
theorem ggX3_mixedRow_X3_mixed : GoodIn wsX3_mixedRow wsX3_mixed := goodIn_r _ [19, 20] (by decide +kernel) (by decide +kernel)
set_option maxRecDepth 20000 in
theorem gX3_mixedRow_X3_mixed : GoodIn wsX3_mixedRow (va_wsS RX3 185 yX3_mixed wsX3_mixed) := goodIn_app (goodIn_of _ (by decide +kernel)) ggX3_mixedRow_X3_mixed
theorem dX3_mixedRow_0 : decode cX3_mixedRow 0 = .ok (.lload_n 0, 1) := by decide +kernel
theorem dX3_mixedRow_1 : decode cX3_mixedRow 1 = .ok (.lstore_n 3, 1) := by decide +kernel
theorem dX3_mixedRow_2 : decode cX3_mixedRow 2 = .ok (.iconst 0, 1) := by decide +kernel
theorem dX3_mixedRow_3 : decode cX3_mixedRow 3 = .ok (.istore 5, 2) := by decide +kernel
theorem dX3_mixedRow_5 : decode cX3_mixedRow 5 = .ok (.iload 5, 2) := by decide +kernel
theorem dX3_mixedRow_7 : decode cX3_mixedRow 7 = .ok (.aload_n 2, 1) := by decide +kernel
theorem dX3_mixedRow_8 : decode cX3_mixedRow 8 = .ok (.invokevirtual 107, 3) := by decide +kernel
theorem dX3_mixedRow_11 : decode cX3_mixedRow 11 = .ok (.if_icmp .ge 20, 3) := by decide +kernel
theorem dX3_mixedRow_14 : decode cX3_mixedRow 14 = .ok (.lload_n 3, 1) := by decide +kernel
theorem dX3_mixedRow_15 : decode cX3_mixedRow 15 = .ok (.aload_n 2, 1) := by decide +kernel
theorem dX3_mixedRow_16 : decode cX3_mixedRow 16 = .ok (.iload 5, 2) := by decide +kernel
theorem dX3_mixedRow_18 : decode cX3_mixedRow 18 = .ok (.invokevirtual 127, 3) := by decide +kernel
theorem dX3_mixedRow_21 : decode cX3_mixedRow 21 = .ok (.invokestatic 185, 3) := by decide +kernel
theorem dX3_mixedRow_24 : decode cX3_mixedRow 24 = .ok (.lstore_n 3, 1) := by decide +kernel
theorem dX3_mixedRow_25 : decode cX3_mixedRow 25 = .ok (.iinc 5 1, 3) := by decide +kernel
theorem dX3_mixedRow_28 : decode cX3_mixedRow 28 = .ok (.goto (-23), 3) := by decide +kernel
theorem dX3_mixedRow_31 : decode cX3_mixedRow 31 = .ok (.lload_n 3, 1) := by decide +kernel
theorem dX3_mixedRow_32 : decode cX3_mixedRow 32 = .ok (.lreturn, 1) := by decide +kernel
set_option maxRecDepth 20000 in
theorem ggX3_counted_X1_lines : GoodIn wsX3_counted wsX1_lines := goodIn_r _ [15, 16, 50, 51, 52] (by decide +kernel) (by decide +kernel)
set_option maxRecDepth 20000 in
theorem gX3_counted_X1_lines : GoodIn wsX3_counted (wsV RX3 177 RX1 yX1_lines wsX1_lines) := goodIn_app (goodIn_of _ (by decide +kernel)) ggX3_counted_X1_lines
set_option maxRecDepth 20000 in
theorem ggX3_counted_X1_characters : GoodIn wsX3_counted wsX1_characters := goodIn_r _ [20, 16, 21, 22, 23, 14, 24, 25, 26, 27, 28, 29, 30, 31, 32, 50, 51, 52, 53, 54] (by decide +kernel) (by decide +kernel)
set_option maxRecDepth 20000 in
theorem gX3_counted_X1_characters : GoodIn wsX3_counted (wsV RX3 180 RX1 yX1_characters wsX1_characters) := goodIn_app (goodIn_of _ (by decide +kernel)) ggX3_counted_X1_characters
set_option maxRecDepth 20000 in
theorem ggX3_counted_X2_play : GoodIn wsX3_counted wsX2_play := goodIn_r _ [37, 38, 55, 56, 57] (by decide +kernel) (by decide +kernel)
set_option maxRecDepth 20000 in
theorem gX3_counted_X2_play : GoodIn wsX3_counted (wsV RX3 83 RX2 yX2_play wsX2_play) := goodIn_app (goodIn_of _ (by decide +kernel)) ggX3_counted_X2_play
set_option maxRecDepth 20000 in
theorem ggX3_counted_X0_size : GoodIn wsX3_counted wsX0_size := goodIn_r _ [31, 32, 53, 54] (by decide +kernel) (by decide +kernel)
set_option maxRecDepth 20000 in
theorem gX3_counted_X0_size : GoodIn wsX3_counted (wsV RX3 107 RX0 yX0_size wsX0_size) := goodIn_app (goodIn_of _ (by decide +kernel)) ggX3_counted_X0_size
theorem dX3_counted_0 : decode cX3_counted 0 = .ok (.iload_n 1, 1) := by decide +kernel
theorem dX3_counted_1 : decode cX3_counted 1 = .ok (.tableswitch 133 0 9 #[55, 63, 71, 84, 92, 100, 105, 110, 115, 120], 55) := by decide +kernel
theorem dX3_counted_56 : decode cX3_counted 56 = .ok (.aload_n 0, 1) := by decide +kernel
theorem dX3_counted_57 : decode cX3_counted 57 = .ok (.getfield 19, 3) := by decide +kernel
theorem dX3_counted_60 : decode cX3_counted 60 = .ok (.invokevirtual 177, 3) := by decide +kernel
theorem dX3_counted_63 : decode cX3_counted 63 = .ok (.ireturn, 1) := by decide +kernel
theorem dX3_counted_64 : decode cX3_counted 64 = .ok (.aload_n 0, 1) := by decide +kernel
theorem dX3_counted_65 : decode cX3_counted 65 = .ok (.getfield 19, 3) := by decide +kernel
theorem dX3_counted_68 : decode cX3_counted 68 = .ok (.invokevirtual 180, 3) := by decide +kernel
theorem dX3_counted_71 : decode cX3_counted 71 = .ok (.ireturn, 1) := by decide +kernel
theorem dX3_counted_72 : decode cX3_counted 72 = .ok (.aload_n 0, 1) := by decide +kernel
theorem dX3_counted_73 : decode cX3_counted 73 = .ok (.getfield 61, 3) := by decide +kernel
theorem dX3_counted_76 : decode cX3_counted 76 = .ok (.ifCond .eq 7, 3) := by decide +kernel
theorem dX3_counted_79 : decode cX3_counted 79 = .ok (.iconst 1, 1) := by decide +kernel
theorem dX3_counted_80 : decode cX3_counted 80 = .ok (.goto 4, 3) := by decide +kernel
theorem dX3_counted_83 : decode cX3_counted 83 = .ok (.iconst 0, 1) := by decide +kernel
theorem dX3_counted_84 : decode cX3_counted 84 = .ok (.ireturn, 1) := by decide +kernel
theorem dX3_counted_85 : decode cX3_counted 85 = .ok (.aload_n 0, 1) := by decide +kernel
theorem dX3_counted_86 : decode cX3_counted 86 = .ok (.getfield 10, 3) := by decide +kernel
theorem dX3_counted_89 : decode cX3_counted 89 = .ok (.invokevirtual 83, 3) := by decide +kernel
theorem dX3_counted_92 : decode cX3_counted 92 = .ok (.ireturn, 1) := by decide +kernel
theorem dX3_counted_93 : decode cX3_counted 93 = .ok (.aload_n 0, 1) := by decide +kernel
theorem dX3_counted_94 : decode cX3_counted 94 = .ok (.getfield 28, 3) := by decide +kernel
theorem dX3_counted_97 : decode cX3_counted 97 = .ok (.invokevirtual 107, 3) := by decide +kernel
theorem dX3_counted_100 : decode cX3_counted 100 = .ok (.ireturn, 1) := by decide +kernel
theorem dX3_counted_101 : decode cX3_counted 101 = .ok (.aload_n 0, 1) := by decide +kernel
theorem dX3_counted_102 : decode cX3_counted 102 = .ok (.getfield 135, 3) := by decide +kernel
theorem dX3_counted_105 : decode cX3_counted 105 = .ok (.ireturn, 1) := by decide +kernel
theorem dX3_counted_106 : decode cX3_counted 106 = .ok (.aload_n 0, 1) := by decide +kernel
theorem dX3_counted_107 : decode cX3_counted 107 = .ok (.getfield 158, 3) := by decide +kernel
theorem dX3_counted_110 : decode cX3_counted 110 = .ok (.ireturn, 1) := by decide +kernel
theorem dX3_counted_111 : decode cX3_counted 111 = .ok (.aload_n 0, 1) := by decide +kernel
theorem dX3_counted_112 : decode cX3_counted 112 = .ok (.getfield 198, 3) := by decide +kernel
theorem dX3_counted_115 : decode cX3_counted 115 = .ok (.ireturn, 1) := by decide +kernel
theorem dX3_counted_116 : decode cX3_counted 116 = .ok (.aload_n 0, 1) := by decide +kernel
theorem dX3_counted_117 : decode cX3_counted 117 = .ok (.getfield 201, 3) := by decide +kernel
theorem dX3_counted_120 : decode cX3_counted 120 = .ok (.ireturn, 1) := by decide +kernel
theorem dX3_counted_121 : decode cX3_counted 121 = .ok (.aload_n 0, 1) := by decide +kernel
theorem dX3_counted_122 : decode cX3_counted 122 = .ok (.getfield 90, 3) := by decide +kernel
theorem dX3_counted_125 : decode cX3_counted 125 = .ok (.ifCond .eq 7, 3) := by decide +kernel
theorem dX3_counted_128 : decode cX3_counted 128 = .ok (.iconst 1, 1) := by decide +kernel
theorem dX3_counted_129 : decode cX3_counted 129 = .ok (.goto 4, 3) := by decide +kernel
theorem dX3_counted_132 : decode cX3_counted 132 = .ok (.iconst 0, 1) := by decide +kernel
theorem dX3_counted_133 : decode cX3_counted 133 = .ok (.ireturn, 1) := by decide +kernel
theorem dX3_counted_134 : decode cX3_counted 134 = .ok (.aload_n 0, 1) := by decide +kernel
theorem dX3_counted_135 : decode cX3_counted 135 = .ok (.getfield 204, 3) := by decide +kernel
theorem dX3_counted_138 : decode cX3_counted 138 = .ok (.ireturn, 1) := by decide +kernel
theorem dX3_isCode_0 : decode cX3_isCode 0 = .ok (.iload_n 0, 1) := by decide +kernel
theorem dX3_isCode_1 : decode cX3_isCode 1 = .ok (.ifCond .lt 13, 3) := by decide +kernel
theorem dX3_isCode_4 : decode cX3_isCode 4 = .ok (.iload_n 0, 1) := by decide +kernel
theorem dX3_isCode_5 : decode cX3_isCode 5 = .ok (.bipush 31, 2) := by decide +kernel
theorem dX3_isCode_7 : decode cX3_isCode 7 = .ok (.if_icmp .gt 7, 3) := by decide +kernel
theorem dX3_isCode_10 : decode cX3_isCode 10 = .ok (.iconst 1, 1) := by decide +kernel
theorem dX3_isCode_11 : decode cX3_isCode 11 = .ok (.goto 4, 3) := by decide +kernel
theorem dX3_isCode_14 : decode cX3_isCode 14 = .ok (.iconst 0, 1) := by decide +kernel
theorem dX3_isCode_15 : decode cX3_isCode 15 = .ok (.ireturn, 1) := by decide +kernel
theorem dX3_isCharacter_0 : decode cX3_isCharacter 0 = .ok (.iload_n 0, 1) := by decide +kernel
theorem dX3_isCharacter_1 : decode cX3_isCharacter 1 = .ok (.iconst 1, 1) := by decide +kernel
theorem dX3_isCharacter_2 : decode cX3_isCharacter 2 = .ok (.if_icmp .lt 13, 3) := by decide +kernel
theorem dX3_isCharacter_5 : decode cX3_isCharacter 5 = .ok (.iload_n 0, 1) := by decide +kernel
theorem dX3_isCharacter_6 : decode cX3_isCharacter 6 = .ok (.bipush 54, 2) := by decide +kernel
theorem dX3_isCharacter_8 : decode cX3_isCharacter 8 = .ok (.if_icmp .gt 7, 3) := by decide +kernel
theorem dX3_isCharacter_11 : decode cX3_isCharacter 11 = .ok (.iconst 1, 1) := by decide +kernel
theorem dX3_isCharacter_12 : decode cX3_isCharacter 12 = .ok (.goto 4, 3) := by decide +kernel
theorem dX3_isCharacter_15 : decode cX3_isCharacter 15 = .ok (.iconst 0, 1) := by decide +kernel
theorem dX3_isCharacter_16 : decode cX3_isCharacter 16 = .ok (.ireturn, 1) := by decide +kernel
theorem dX3_isFigure_0 : decode cX3_isFigure 0 = .ok (.iload_n 0, 1) := by decide +kernel
theorem dX3_isFigure_1 : decode cX3_isFigure 1 = .ok (.bipush 26, 2) := by decide +kernel
theorem dX3_isFigure_3 : decode cX3_isFigure 3 = .ok (.if_icmp .le 13, 3) := by decide +kernel
theorem dX3_isFigure_6 : decode cX3_isFigure 6 = .ok (.iload_n 0, 1) := by decide +kernel
theorem dX3_isFigure_7 : decode cX3_isFigure 7 = .ok (.bipush 53, 2) := by decide +kernel
theorem dX3_isFigure_9 : decode cX3_isFigure 9 = .ok (.if_icmp .ge 7, 3) := by decide +kernel
theorem dX3_isFigure_12 : decode cX3_isFigure 12 = .ok (.iconst 1, 1) := by decide +kernel
theorem dX3_isFigure_13 : decode cX3_isFigure 13 = .ok (.goto 4, 3) := by decide +kernel
theorem dX3_isFigure_16 : decode cX3_isFigure 16 = .ok (.iconst 0, 1) := by decide +kernel
theorem dX3_isFigure_17 : decode cX3_isFigure 17 = .ok (.ireturn, 1) := by decide +kernel
theorem dX3_codeOf_0 : decode cX3_codeOf 0 = .ok (.iload_n 0, 1) := by decide +kernel
theorem dX3_codeOf_1 : decode cX3_codeOf 1 = .ok (.ifCond .lt 19, 3) := by decide +kernel
theorem dX3_codeOf_4 : decode cX3_codeOf 4 = .ok (.iload_n 0, 1) := by decide +kernel
theorem dX3_codeOf_5 : decode cX3_codeOf 5 = .ok (.getstatic 207, 3) := by decide +kernel
theorem dX3_codeOf_8 : decode cX3_codeOf 8 = .ok (.arraylength, 1) := by decide +kernel
theorem dX3_codeOf_9 : decode cX3_codeOf 9 = .ok (.if_icmp .ge 11, 3) := by decide +kernel
theorem dX3_codeOf_12 : decode cX3_codeOf 12 = .ok (.getstatic 207, 3) := by decide +kernel
theorem dX3_codeOf_15 : decode cX3_codeOf 15 = .ok (.iload_n 0, 1) := by decide +kernel
theorem dX3_codeOf_16 : decode cX3_codeOf 16 = .ok (.iaload, 1) := by decide +kernel
theorem dX3_codeOf_17 : decode cX3_codeOf 17 = .ok (.goto 4, 3) := by decide +kernel
theorem dX3_codeOf_20 : decode cX3_codeOf 20 = .ok (.iconst 0, 1) := by decide +kernel
theorem dX3_codeOf_21 : decode cX3_codeOf 21 = .ok (.ireturn, 1) := by decide +kernel
set_option maxRecDepth 20000 in
theorem ggX3_characterOf_X3_characterInLetters : GoodIn wsX3_characterOf wsX3_characterInLetters := goodIn_r _ [4, 5] (by decide +kernel) (by decide +kernel)
set_option maxRecDepth 20000 in
theorem gX3_characterOf_X3_characterInLetters : GoodIn wsX3_characterOf (va_wsS RX3 211 yX3_characterInLetters wsX3_characterInLetters) := goodIn_app (goodIn_of _ (by decide +kernel)) ggX3_characterOf_X3_characterInLetters
set_option maxRecDepth 20000 in
theorem ggX3_characterOf_X3_dependsOnShift : GoodIn wsX3_characterOf wsX3_dependsOnShift := goodIn_r _ [8, 1, 2, 3, 4, 5] (by decide +kernel) (by decide +kernel)
set_option maxRecDepth 20000 in
theorem gX3_characterOf_X3_dependsOnShift : GoodIn wsX3_characterOf (va_wsS RX3 113 yX3_dependsOnShift wsX3_dependsOnShift) := goodIn_app (goodIn_of _ (by decide +kernel)) ggX3_characterOf_X3_dependsOnShift
theorem dX3_characterOf_0 : decode cX3_characterOf 0 = .ok (.iload_n 0, 1) := by decide +kernel
theorem dX3_characterOf_1 : decode cX3_characterOf 1 = .ok (.invokestatic 211, 3) := by decide +kernel
theorem dX3_characterOf_4 : decode cX3_characterOf 4 = .ok (.istore_n 2, 1) := by decide +kernel
theorem dX3_characterOf_5 : decode cX3_characterOf 5 = .ok (.iload_n 1, 1) := by decide +kernel
theorem dX3_characterOf_6 : decode cX3_characterOf 6 = .ok (.ifCond .eq 17, 3) := by decide +kernel
theorem dX3_characterOf_9 : decode cX3_characterOf 9 = .ok (.iload_n 0, 1) := by decide +kernel
theorem dX3_characterOf_10 : decode cX3_characterOf 10 = .ok (.invokestatic 113, 3) := by decide +kernel
theorem dX3_characterOf_13 : decode cX3_characterOf 13 = .ok (.ifCond .eq 10, 3) := by decide +kernel
theorem dX3_characterOf_16 : decode cX3_characterOf 16 = .ok (.iload_n 2, 1) := by decide +kernel
theorem dX3_characterOf_17 : decode cX3_characterOf 17 = .ok (.bipush 26, 2) := by decide +kernel
theorem dX3_characterOf_19 : decode cX3_characterOf 19 = .ok (.iadd, 1) := by decide +kernel
theorem dX3_characterOf_20 : decode cX3_characterOf 20 = .ok (.goto 4, 3) := by decide +kernel
theorem dX3_characterOf_23 : decode cX3_characterOf 23 = .ok (.iload_n 2, 1) := by decide +kernel
theorem dX3_characterOf_24 : decode cX3_characterOf 24 = .ok (.ireturn, 1) := by decide +kernel
set_option maxRecDepth 20000 in
theorem ggX3_dependsOnShift_X3_characterInLetters : GoodIn wsX3_dependsOnShift wsX3_characterInLetters := goodIn_r _ [4, 5] (by decide +kernel) (by decide +kernel)
set_option maxRecDepth 20000 in
theorem gX3_dependsOnShift_X3_characterInLetters : GoodIn wsX3_dependsOnShift (va_wsS RX3 211 yX3_characterInLetters wsX3_characterInLetters) := goodIn_app (goodIn_of _ (by decide +kernel)) ggX3_dependsOnShift_X3_characterInLetters
theorem dX3_dependsOnShift_0 : decode cX3_dependsOnShift 0 = .ok (.iload_n 0, 1) := by decide +kernel
theorem dX3_dependsOnShift_1 : decode cX3_dependsOnShift 1 = .ok (.invokestatic 211, 3) := by decide +kernel
theorem dX3_dependsOnShift_4 : decode cX3_dependsOnShift 4 = .ok (.istore_n 1, 1) := by decide +kernel
theorem dX3_dependsOnShift_5 : decode cX3_dependsOnShift 5 = .ok (.iload_n 1, 1) := by decide +kernel
theorem dX3_dependsOnShift_6 : decode cX3_dependsOnShift 6 = .ok (.ifCond .eq 13, 3) := by decide +kernel
theorem dX3_dependsOnShift_9 : decode cX3_dependsOnShift 9 = .ok (.iload_n 1, 1) := by decide +kernel
theorem dX3_dependsOnShift_10 : decode cX3_dependsOnShift 10 = .ok (.bipush 26, 2) := by decide +kernel
theorem dX3_dependsOnShift_12 : decode cX3_dependsOnShift 12 = .ok (.if_icmp .gt 7, 3) := by decide +kernel
theorem dX3_dependsOnShift_15 : decode cX3_dependsOnShift 15 = .ok (.iconst 1, 1) := by decide +kernel
theorem dX3_dependsOnShift_16 : decode cX3_dependsOnShift 16 = .ok (.goto 4, 3) := by decide +kernel
theorem dX3_dependsOnShift_19 : decode cX3_dependsOnShift 19 = .ok (.iconst 0, 1) := by decide +kernel
theorem dX3_dependsOnShift_20 : decode cX3_dependsOnShift 20 = .ok (.ireturn, 1) := by decide +kernel
theorem dX3_characterInLetters_0 : decode cX3_characterInLetters 0 = .ok (.iload_n 0, 1) := by decide +kernel
theorem dX3_characterInLetters_1 : decode cX3_characterInLetters 1 = .ok (.ifCond .lt 19, 3) := by decide +kernel
theorem dX3_characterInLetters_4 : decode cX3_characterInLetters 4 = .ok (.iload_n 0, 1) := by decide +kernel
theorem dX3_characterInLetters_5 : decode cX3_characterInLetters 5 = .ok (.getstatic 214, 3) := by decide +kernel
theorem dX3_characterInLetters_8 : decode cX3_characterInLetters 8 = .ok (.arraylength, 1) := by decide +kernel
theorem dX3_characterInLetters_9 : decode cX3_characterInLetters 9 = .ok (.if_icmp .ge 11, 3) := by decide +kernel
theorem dX3_characterInLetters_12 : decode cX3_characterInLetters 12 = .ok (.getstatic 214, 3) := by decide +kernel
theorem dX3_characterInLetters_15 : decode cX3_characterInLetters 15 = .ok (.iload_n 0, 1) := by decide +kernel
theorem dX3_characterInLetters_16 : decode cX3_characterInLetters 16 = .ok (.iaload, 1) := by decide +kernel
theorem dX3_characterInLetters_17 : decode cX3_characterInLetters 17 = .ok (.goto 4, 3) := by decide +kernel
theorem dX3_characterInLetters_20 : decode cX3_characterInLetters 20 = .ok (.iconst 0, 1) := by decide +kernel
theorem dX3_characterInLetters_21 : decode cX3_characterInLetters 21 = .ok (.ireturn, 1) := by decide +kernel
theorem dX3_isShift_0 : decode cX3_isShift 0 = .ok (.iload_n 0, 1) := by decide +kernel
theorem dX3_isShift_1 : decode cX3_isShift 1 = .ok (.bipush 31, 2) := by decide +kernel
theorem dX3_isShift_3 : decode cX3_isShift 3 = .ok (.if_icmp .eq 9, 3) := by decide +kernel
theorem dX3_isShift_6 : decode cX3_isShift 6 = .ok (.iload_n 0, 1) := by decide +kernel
theorem dX3_isShift_7 : decode cX3_isShift 7 = .ok (.bipush 27, 2) := by decide +kernel
theorem dX3_isShift_9 : decode cX3_isShift 9 = .ok (.if_icmp .ne 7, 3) := by decide +kernel
theorem dX3_isShift_12 : decode cX3_isShift 12 = .ok (.iconst 1, 1) := by decide +kernel
theorem dX3_isShift_13 : decode cX3_isShift 13 = .ok (.goto 4, 3) := by decide +kernel
theorem dX3_isShift_16 : decode cX3_isShift 16 = .ok (.iconst 0, 1) := by decide +kernel
theorem dX3_isShift_17 : decode cX3_isShift 17 = .ok (.ireturn, 1) := by decide +kernel
set_option maxRecDepth 20000 in
theorem ggX3_figuresBehind_X3_shiftsToLetters : GoodIn wsX3_figuresBehind wsX3_shiftsToLetters := goodIn_r _ [5, 6, 7, 8, 9, 10, 11, 12, 13, 14, 15, 16] (by decide +kernel) (by decide +kernel)
set_option maxRecDepth 20000 in
theorem gX3_figuresBehind_X3_shiftsToLetters : GoodIn wsX3_figuresBehind (wsV RX3 217 RX3 yX3_shiftsToLetters wsX3_shiftsToLetters) := goodIn_app (goodIn_of _ (by decide +kernel)) ggX3_figuresBehind_X3_shiftsToLetters
theorem dX3_figuresBehind_0 : decode cX3_figuresBehind 0 = .ok (.iload_n 1, 1) := by decide +kernel
theorem dX3_figuresBehind_1 : decode cX3_figuresBehind 1 = .ok (.bipush 27, 2) := by decide +kernel
theorem dX3_figuresBehind_3 : decode cX3_figuresBehind 3 = .ok (.if_icmp .ne 5, 3) := by decide +kernel
theorem dX3_figuresBehind_6 : decode cX3_figuresBehind 6 = .ok (.iconst 1, 1) := by decide +kernel
theorem dX3_figuresBehind_7 : decode cX3_figuresBehind 7 = .ok (.ireturn, 1) := by decide +kernel
theorem dX3_figuresBehind_8 : decode cX3_figuresBehind 8 = .ok (.iload_n 2, 1) := by decide +kernel
theorem dX3_figuresBehind_9 : decode cX3_figuresBehind 9 = .ok (.ifCond .eq 15, 3) := by decide +kernel
theorem dX3_figuresBehind_12 : decode cX3_figuresBehind 12 = .ok (.aload_n 0, 1) := by decide +kernel
theorem dX3_figuresBehind_13 : decode cX3_figuresBehind 13 = .ok (.iload_n 1, 1) := by decide +kernel
theorem dX3_figuresBehind_14 : decode cX3_figuresBehind 14 = .ok (.invokevirtual 217, 3) := by decide +kernel
theorem dX3_figuresBehind_17 : decode cX3_figuresBehind 17 = .ok (.ifCond .ne 7, 3) := by decide +kernel
theorem dX3_figuresBehind_20 : decode cX3_figuresBehind 20 = .ok (.iconst 1, 1) := by decide +kernel
theorem dX3_figuresBehind_21 : decode cX3_figuresBehind 21 = .ok (.goto 4, 3) := by decide +kernel
theorem dX3_figuresBehind_24 : decode cX3_figuresBehind 24 = .ok (.iconst 0, 1) := by decide +kernel
theorem dX3_figuresBehind_25 : decode cX3_figuresBehind 25 = .ok (.ireturn, 1) := by decide +kernel
theorem dX3_shiftsToLetters_0 : decode cX3_shiftsToLetters 0 = .ok (.iload_n 1, 1) := by decide +kernel
theorem dX3_shiftsToLetters_1 : decode cX3_shiftsToLetters 1 = .ok (.bipush 31, 2) := by decide +kernel
theorem dX3_shiftsToLetters_3 : decode cX3_shiftsToLetters 3 = .ok (.if_icmp .eq 20, 3) := by decide +kernel
theorem dX3_shiftsToLetters_6 : decode cX3_shiftsToLetters 6 = .ok (.iload_n 1, 1) := by decide +kernel
theorem dX3_shiftsToLetters_7 : decode cX3_shiftsToLetters 7 = .ok (.iconst 2, 1) := by decide +kernel
theorem dX3_shiftsToLetters_8 : decode cX3_shiftsToLetters 8 = .ok (.if_icmp .eq 15, 3) := by decide +kernel
theorem dX3_shiftsToLetters_11 : decode cX3_shiftsToLetters 11 = .ok (.aload_n 0, 1) := by decide +kernel
theorem dX3_shiftsToLetters_12 : decode cX3_shiftsToLetters 12 = .ok (.getfield 90, 3) := by decide +kernel
theorem dX3_shiftsToLetters_15 : decode cX3_shiftsToLetters 15 = .ok (.ifCond .eq 12, 3) := by decide +kernel
theorem dX3_shiftsToLetters_18 : decode cX3_shiftsToLetters 18 = .ok (.iload_n 1, 1) := by decide +kernel
theorem dX3_shiftsToLetters_19 : decode cX3_shiftsToLetters 19 = .ok (.iconst 4, 1) := by decide +kernel
theorem dX3_shiftsToLetters_20 : decode cX3_shiftsToLetters 20 = .ok (.if_icmp .ne 7, 3) := by decide +kernel
theorem dX3_shiftsToLetters_23 : decode cX3_shiftsToLetters 23 = .ok (.iconst 1, 1) := by decide +kernel
theorem dX3_shiftsToLetters_24 : decode cX3_shiftsToLetters 24 = .ok (.goto 4, 3) := by decide +kernel
theorem dX3_shiftsToLetters_27 : decode cX3_shiftsToLetters 27 = .ok (.iconst 0, 1) := by decide +kernel
theorem dX3_shiftsToLetters_28 : decode cX3_shiftsToLetters 28 = .ok (.ireturn, 1) := by decide +kernel
set_option maxRecDepth 20000 in
theorem ggX3_figuresAhead_X0_size : GoodIn wsX3_figuresAhead wsX0_size := goodIn_r _ [6, 7, 37, 38] (by decide +kernel) (by decide +kernel)
set_option maxRecDepth 20000 in
theorem gX3_figuresAhead_X0_size : GoodIn wsX3_figuresAhead (wsV RX3 107 RX0 yX0_size wsX0_size) := goodIn_app (goodIn_of _ (by decide +kernel)) ggX3_figuresAhead_X0_size
set_option maxRecDepth 20000 in
theorem ggX3_figuresAhead_X0_at : GoodIn wsX3_figuresAhead wsX0_at := goodIn_r _ [11, 12, 13, 14, 15, 5, 16, 7, 37, 38] (by decide +kernel) (by decide +kernel)
set_option maxRecDepth 20000 in
theorem gX3_figuresAhead_X0_at : GoodIn wsX3_figuresAhead (wsV RX3 127 RX0 yX0_at wsX0_at) := goodIn_app (goodIn_of _ (by decide +kernel)) ggX3_figuresAhead_X0_at
set_option maxRecDepth 20000 in
theorem ggX3_figuresAhead_X3_figuresBehind : GoodIn wsX3_figuresAhead wsX3_figuresBehind := goodIn_r _ [21, 22, 23, 24, 20, 25, 26, 27, 28, 29, 30, 31, 32, 33, 34, 35, 36] (by decide +kernel) (by decide +kernel)
set_option maxRecDepth 20000 in
theorem gX3_figuresAhead_X3_figuresBehind : GoodIn wsX3_figuresAhead (wsV RX3 164 RX3 yX3_figuresBehind wsX3_figuresBehind) := goodIn_app (goodIn_of _ (by decide +kernel)) ggX3_figuresAhead_X3_figuresBehind
theorem dX3_figuresAhead_0 : decode cX3_figuresAhead 0 = .ok (.iconst 0, 1) := by decide +kernel
theorem dX3_figuresAhead_1 : decode cX3_figuresAhead 1 = .ok (.istore_n 2, 1) := by decide +kernel
theorem dX3_figuresAhead_2 : decode cX3_figuresAhead 2 = .ok (.iconst 0, 1) := by decide +kernel
theorem dX3_figuresAhead_3 : decode cX3_figuresAhead 3 = .ok (.istore_n 3, 1) := by decide +kernel
theorem dX3_figuresAhead_4 : decode cX3_figuresAhead 4 = .ok (.iload_n 3, 1) := by decide +kernel
theorem dX3_figuresAhead_5 : decode cX3_figuresAhead 5 = .ok (.iload_n 1, 1) := by decide +kernel
theorem dX3_figuresAhead_6 : decode cX3_figuresAhead 6 = .ok (.if_icmp .ge 34, 3) := by decide +kernel
theorem dX3_figuresAhead_9 : decode cX3_figuresAhead 9 = .ok (.iload_n 3, 1) := by decide +kernel
theorem dX3_figuresAhead_10 : decode cX3_figuresAhead 10 = .ok (.aload_n 0, 1) := by decide +kernel
theorem dX3_figuresAhead_11 : decode cX3_figuresAhead 11 = .ok (.getfield 28, 3) := by decide +kernel
theorem dX3_figuresAhead_14 : decode cX3_figuresAhead 14 = .ok (.invokevirtual 107, 3) := by decide +kernel
theorem dX3_figuresAhead_17 : decode cX3_figuresAhead 17 = .ok (.if_icmp .ge 23, 3) := by decide +kernel
theorem dX3_figuresAhead_20 : decode cX3_figuresAhead 20 = .ok (.aload_n 0, 1) := by decide +kernel
theorem dX3_figuresAhead_21 : decode cX3_figuresAhead 21 = .ok (.aload_n 0, 1) := by decide +kernel
theorem dX3_figuresAhead_22 : decode cX3_figuresAhead 22 = .ok (.getfield 28, 3) := by decide +kernel
theorem dX3_figuresAhead_25 : decode cX3_figuresAhead 25 = .ok (.iload_n 3, 1) := by decide +kernel
theorem dX3_figuresAhead_26 : decode cX3_figuresAhead 26 = .ok (.invokevirtual 127, 3) := by decide +kernel
theorem dX3_figuresAhead_29 : decode cX3_figuresAhead 29 = .ok (.iload_n 2, 1) := by decide +kernel
theorem dX3_figuresAhead_30 : decode cX3_figuresAhead 30 = .ok (.invokevirtual 164, 3) := by decide +kernel
theorem dX3_figuresAhead_33 : decode cX3_figuresAhead 33 = .ok (.istore_n 2, 1) := by decide +kernel
theorem dX3_figuresAhead_34 : decode cX3_figuresAhead 34 = .ok (.iinc 3 1, 3) := by decide +kernel
theorem dX3_figuresAhead_37 : decode cX3_figuresAhead 37 = .ok (.goto (-33), 3) := by decide +kernel
theorem dX3_figuresAhead_40 : decode cX3_figuresAhead 40 = .ok (.iload_n 2, 1) := by decide +kernel
theorem dX3_figuresAhead_41 : decode cX3_figuresAhead 41 = .ok (.ireturn, 1) := by decide +kernel
set_option maxRecDepth 20000 in
theorem ggX3_figuresAtEnd_X0_size : GoodIn wsX3_figuresAtEnd wsX0_size := goodIn_r _ [6, 7, 41, 42] (by decide +kernel) (by decide +kernel)
set_option maxRecDepth 20000 in
theorem gX3_figuresAtEnd_X0_size : GoodIn wsX3_figuresAtEnd (wsV RX3 107 RX0 yX0_size wsX0_size) := goodIn_app (goodIn_of _ (by decide +kernel)) ggX3_figuresAtEnd_X0_size
set_option maxRecDepth 20000 in
theorem ggX3_figuresAtEnd_X3_figuresAhead : GoodIn wsX3_figuresAtEnd wsX3_figuresAhead := goodIn_r _ [12, 1, 2, 3, 4, 5, 6, 7, 13, 14, 15, 16, 17, 18, 19, 20, 21, 22, 23, 24, 11, 25, 26, 27, 28, 29, 30, 31, 32, 33, 34, 35, 36, 37, 38, 39, 40, 41, 42] (by decide +kernel) (by decide +kernel)
set_option maxRecDepth 20000 in
theorem gX3_figuresAtEnd_X3_figuresAhead : GoodIn wsX3_figuresAtEnd (wsV RX3 174 RX3 yX3_figuresAhead wsX3_figuresAhead) := goodIn_app (goodIn_of _ (by decide +kernel)) ggX3_figuresAtEnd_X3_figuresAhead
theorem dX3_figuresAtEnd_0 : decode cX3_figuresAtEnd 0 = .ok (.aload_n 0, 1) := by decide +kernel
theorem dX3_figuresAtEnd_1 : decode cX3_figuresAtEnd 1 = .ok (.aload_n 0, 1) := by decide +kernel
theorem dX3_figuresAtEnd_2 : decode cX3_figuresAtEnd 2 = .ok (.getfield 28, 3) := by decide +kernel
theorem dX3_figuresAtEnd_5 : decode cX3_figuresAtEnd 5 = .ok (.invokevirtual 107, 3) := by decide +kernel
theorem dX3_figuresAtEnd_8 : decode cX3_figuresAtEnd 8 = .ok (.invokevirtual 174, 3) := by decide +kernel
theorem dX3_figuresAtEnd_11 : decode cX3_figuresAtEnd 11 = .ok (.ireturn, 1) := by decide +kernel
set_option maxRecDepth 20000 in
theorem ggX3_servesBehind_X0_size : GoodIn wsX3_servesBehind wsX0_size := goodIn_r _ [6, 7, 40, 41] (by decide +kernel) (by decide +kernel)
set_option maxRecDepth 20000 in
theorem gX3_servesBehind_X0_size : GoodIn wsX3_servesBehind (wsV RX3 107 RX0 yX0_size wsX0_size) := goodIn_app (goodIn_of _ (by decide +kernel)) ggX3_servesBehind_X0_size
set_option maxRecDepth 20000 in
theorem ggX3_servesBehind_X0_at : GoodIn wsX3_servesBehind wsX0_at := goodIn_r _ [11, 12, 13, 14, 15, 5, 16, 7, 40, 41] (by decide +kernel) (by decide +kernel)
set_option maxRecDepth 20000 in
theorem gX3_servesBehind_X0_at : GoodIn wsX3_servesBehind (wsV RX3 127 RX0 yX0_at wsX0_at) := goodIn_app (goodIn_of _ (by decide +kernel)) ggX3_servesBehind_X0_at
set_option maxRecDepth 20000 in
theorem ggX3_servesBehind_X3_dependsOnShift : GoodIn wsX3_servesBehind wsX3_dependsOnShift := goodIn_r _ [20, 21, 22, 19, 23, 24] (by decide +kernel) (by decide +kernel)
set_option maxRecDepth 20000 in
theorem gX3_servesBehind_X3_dependsOnShift : GoodIn wsX3_servesBehind (va_wsS RX3 113 yX3_dependsOnShift wsX3_dependsOnShift) := goodIn_app (goodIn_of _ (by decide +kernel)) ggX3_servesBehind_X3_dependsOnShift
set_option maxRecDepth 20000 in
theorem ggX3_servesBehind_X3_shiftsToLetters : GoodIn wsX3_servesBehind wsX3_shiftsToLetters := goodIn_r _ [28, 29, 30, 31, 32, 33, 34, 35, 36, 37, 38, 39] (by decide +kernel) (by decide +kernel)
set_option maxRecDepth 20000 in
theorem gX3_servesBehind_X3_shiftsToLetters : GoodIn wsX3_servesBehind (wsV RX3 217 RX3 yX3_shiftsToLetters wsX3_shiftsToLetters) := goodIn_app (goodIn_of _ (by decide +kernel)) ggX3_servesBehind_X3_shiftsToLetters
theorem dX3_servesBehind_0 : decode cX3_servesBehind 0 = .ok (.iload_n 1, 1) := by decide +kernel
theorem dX3_servesBehind_1 : decode cX3_servesBehind 1 = .ok (.iconst 1, 1) := by decide +kernel
theorem dX3_servesBehind_2 : decode cX3_servesBehind 2 = .ok (.iadd, 1) := by decide +kernel
theorem dX3_servesBehind_3 : decode cX3_servesBehind 3 = .ok (.istore_n 2, 1) := by decide +kernel
theorem dX3_servesBehind_4 : decode cX3_servesBehind 4 = .ok (.iload_n 2, 1) := by decide +kernel
theorem dX3_servesBehind_5 : decode cX3_servesBehind 5 = .ok (.aload_n 0, 1) := by decide +kernel
theorem dX3_servesBehind_6 : decode cX3_servesBehind 6 = .ok (.getfield 28, 3) := by decide +kernel
theorem dX3_servesBehind_9 : decode cX3_servesBehind 9 = .ok (.invokevirtual 107, 3) := by decide +kernel
theorem dX3_servesBehind_12 : decode cX3_servesBehind 12 = .ok (.if_icmp .ge 43, 3) := by decide +kernel
theorem dX3_servesBehind_15 : decode cX3_servesBehind 15 = .ok (.aload_n 0, 1) := by decide +kernel
theorem dX3_servesBehind_16 : decode cX3_servesBehind 16 = .ok (.getfield 28, 3) := by decide +kernel
theorem dX3_servesBehind_19 : decode cX3_servesBehind 19 = .ok (.iload_n 2, 1) := by decide +kernel
theorem dX3_servesBehind_20 : decode cX3_servesBehind 20 = .ok (.invokevirtual 127, 3) := by decide +kernel
theorem dX3_servesBehind_23 : decode cX3_servesBehind 23 = .ok (.istore_n 3, 1) := by decide +kernel
theorem dX3_servesBehind_24 : decode cX3_servesBehind 24 = .ok (.iload_n 3, 1) := by decide +kernel
theorem dX3_servesBehind_25 : decode cX3_servesBehind 25 = .ok (.invokestatic 113, 3) := by decide +kernel
theorem dX3_servesBehind_28 : decode cX3_servesBehind 28 = .ok (.ifCond .eq 5, 3) := by decide +kernel
theorem dX3_servesBehind_31 : decode cX3_servesBehind 31 = .ok (.iconst 1, 1) := by decide +kernel
theorem dX3_servesBehind_32 : decode cX3_servesBehind 32 = .ok (.ireturn, 1) := by decide +kernel
theorem dX3_servesBehind_33 : decode cX3_servesBehind 33 = .ok (.iload_n 3, 1) := by decide +kernel
theorem dX3_servesBehind_34 : decode cX3_servesBehind 34 = .ok (.bipush 27, 2) := by decide +kernel
theorem dX3_servesBehind_36 : decode cX3_servesBehind 36 = .ok (.if_icmp .eq 11, 3) := by decide +kernel
theorem dX3_servesBehind_39 : decode cX3_servesBehind 39 = .ok (.aload_n 0, 1) := by decide +kernel
theorem dX3_servesBehind_40 : decode cX3_servesBehind 40 = .ok (.iload_n 3, 1) := by decide +kernel
theorem dX3_servesBehind_41 : decode cX3_servesBehind 41 = .ok (.invokevirtual 217, 3) := by decide +kernel
theorem dX3_servesBehind_44 : decode cX3_servesBehind 44 = .ok (.ifCond .eq 5, 3) := by decide +kernel
theorem dX3_servesBehind_47 : decode cX3_servesBehind 47 = .ok (.iconst 0, 1) := by decide +kernel
theorem dX3_servesBehind_48 : decode cX3_servesBehind 48 = .ok (.ireturn, 1) := by decide +kernel
theorem dX3_servesBehind_49 : decode cX3_servesBehind 49 = .ok (.iinc 2 1, 3) := by decide +kernel
theorem dX3_servesBehind_52 : decode cX3_servesBehind 52 = .ok (.goto (-48), 3) := by decide +kernel
theorem dX3_servesBehind_55 : decode cX3_servesBehind 55 = .ok (.iconst 0, 1) := by decide +kernel
theorem dX3_servesBehind_56 : decode cX3_servesBehind 56 = .ok (.ireturn, 1) := by decide +kernel
set_option maxRecDepth 20000 in
theorem ggX3_takeIn_X2_readAs : GoodIn wsX3_takeIn wsX2_readAs := goodIn_r _ [8, 9, 10, 11, 12, 13, 14, 15, 16, 17, 18, 19, 20, 21, 22, 85, 86, 87, 88, 89] (by decide +kernel) (by decide +kernel)
set_option maxRecDepth 20000 in
theorem gX3_takeIn_X2_readAs : GoodIn wsX3_takeIn (wsV RX3 161 RX2 yX2_readAs wsX2_readAs) := goodIn_app (goodIn_of _ (by decide +kernel)) ggX3_takeIn_X2_readAs
set_option maxRecDepth 20000 in
theorem ggX3_takeIn_X3_obey : GoodIn wsX3_takeIn wsX3_obey := goodIn_r _ [27, 28, 29, 30, 31, 32, 33, 26, 34, 35, 36, 37, 38, 39, 40, 41, 42, 43, 44, 45, 46, 47, 48, 49, 50, 51, 52, 53, 54, 55, 56, 15, 57, 22, 58, 59, 60, 61, 62, 63, 64, 65, 17, 66, 67, 68, 69, 70, 71, 72, 73, 74, 75, 76, 77, 78, 79, 80, 81, 82, 83, 84, 90, 91, 92, 88, 89] (by decide +kernel) (by decide +kernel)
set_option maxRecDepth 20000 in
theorem gX3_takeIn_X3_obey : GoodIn wsX3_takeIn (wsV RX3 220 RX3 yX3_obey wsX3_obey) := goodIn_app (goodIn_of _ (by decide +kernel)) ggX3_takeIn_X3_obey
theorem dX3_takeIn_0 : decode cX3_takeIn 0 = .ok (.aload_n 0, 1) := by decide +kernel
theorem dX3_takeIn_1 : decode cX3_takeIn 1 = .ok (.getfield 10, 3) := by decide +kernel
theorem dX3_takeIn_4 : decode cX3_takeIn 4 = .ok (.iload_n 1, 1) := by decide +kernel
theorem dX3_takeIn_5 : decode cX3_takeIn 5 = .ok (.aload_n 0, 1) := by decide +kernel
theorem dX3_takeIn_6 : decode cX3_takeIn 6 = .ok (.getfield 158, 3) := by decide +kernel
theorem dX3_takeIn_9 : decode cX3_takeIn 9 = .ok (.invokevirtual 161, 3) := by decide +kernel
theorem dX3_takeIn_12 : decode cX3_takeIn 12 = .ok (.istore_n 2, 1) := by decide +kernel
theorem dX3_takeIn_13 : decode cX3_takeIn 13 = .ok (.aload_n 0, 1) := by decide +kernel
theorem dX3_takeIn_14 : decode cX3_takeIn 14 = .ok (.dup, 1) := by decide +kernel
theorem dX3_takeIn_15 : decode cX3_takeIn 15 = .ok (.getfield 158, 3) := by decide +kernel
theorem dX3_takeIn_18 : decode cX3_takeIn 18 = .ok (.iconst 1, 1) := by decide +kernel
theorem dX3_takeIn_19 : decode cX3_takeIn 19 = .ok (.iadd, 1) := by decide +kernel
theorem dX3_takeIn_20 : decode cX3_takeIn 20 = .ok (.putfield 158, 3) := by decide +kernel
theorem dX3_takeIn_23 : decode cX3_takeIn 23 = .ok (.iload_n 2, 1) := by decide +kernel
theorem dX3_takeIn_24 : decode cX3_takeIn 24 = .ok (.iload_n 1, 1) := by decide +kernel
theorem dX3_takeIn_25 : decode cX3_takeIn 25 = .ok (.if_icmp .eq 13, 3) := by decide +kernel
theorem dX3_takeIn_28 : decode cX3_takeIn 28 = .ok (.aload_n 0, 1) := by decide +kernel
theorem dX3_takeIn_29 : decode cX3_takeIn 29 = .ok (.dup, 1) := by decide +kernel
theorem dX3_takeIn_30 : decode cX3_takeIn 30 = .ok (.getfield 198, 3) := by decide +kernel
theorem dX3_takeIn_33 : decode cX3_takeIn 33 = .ok (.iconst 1, 1) := by decide +kernel
theorem dX3_takeIn_34 : decode cX3_takeIn 34 = .ok (.iadd, 1) := by decide +kernel
theorem dX3_takeIn_35 : decode cX3_takeIn 35 = .ok (.putfield 198, 3) := by decide +kernel
theorem dX3_takeIn_38 : decode cX3_takeIn 38 = .ok (.aload_n 0, 1) := by decide +kernel
theorem dX3_takeIn_39 : decode cX3_takeIn 39 = .ok (.iload_n 2, 1) := by decide +kernel
theorem dX3_takeIn_40 : decode cX3_takeIn 40 = .ok (.invokevirtual 220, 3) := by decide +kernel
theorem dX3_takeIn_43 : decode cX3_takeIn 43 = .ok (.iload_n 2, 1) := by decide +kernel
theorem dX3_takeIn_44 : decode cX3_takeIn 44 = .ok (.ireturn, 1) := by decide +kernel
set_option maxRecDepth 20000 in
theorem ggX3_obey_X3_characterOf : GoodIn wsX3_obey wsX3_characterOf := goodIn_r _ [8, 9, 10, 7, 11, 12, 13, 14, 15] (by decide +kernel) (by decide +kernel)
set_option maxRecDepth 20000 in
theorem gX3_obey_X3_characterOf : GoodIn wsX3_obey (va_wsS RX3 52 yX3_characterOf wsX3_characterOf) := goodIn_app (goodIn_of _ (by decide +kernel)) ggX3_obey_X3_characterOf
set_option maxRecDepth 20000 in
theorem ggX3_obey_X1_beginLine : GoodIn wsX3_obey wsX1_beginLine := goodIn_r _ [20, 21, 22, 23, 24, 25, 19, 26, 27, 28, 29, 30, 31, 32, 33, 62, 63, 64, 65, 66] (by decide +kernel) (by decide +kernel)
set_option maxRecDepth 20000 in
theorem gX3_obey_X1_beginLine : GoodIn wsX3_obey (wsV RX3 223 RX1 yX1_beginLine wsX1_beginLine) := goodIn_app (goodIn_of _ (by decide +kernel)) ggX3_obey_X1_beginLine
set_option maxRecDepth 20000 in
theorem ggX3_obey_X1_add : GoodIn wsX3_obey wsX1_add := goodIn_r _ [37, 21, 23, 24, 25, 19, 26, 22, 27, 38, 39, 40, 31, 41, 33, 42, 62, 63, 64, 65, 66] (by decide +kernel) (by decide +kernel)
set_option maxRecDepth 20000 in
theorem gX3_obey_X1_add : GoodIn wsX3_obey (wsV RX3 226 RX1 yX1_add wsX1_add) := goodIn_app (goodIn_of _ (by decide +kernel)) ggX3_obey_X1_add
set_option maxRecDepth 20000 in
theorem ggX3_obey_X3_figuresBehind : GoodIn wsX3_obey wsX3_figuresBehind := goodIn_r _ [46, 47, 48, 49, 7, 50, 51, 52, 53, 54, 55, 56, 57, 58, 59, 60, 61] (by decide +kernel) (by decide +kernel)
set_option maxRecDepth 20000 in
theorem gX3_obey_X3_figuresBehind : GoodIn wsX3_obey (wsV RX3 164 RX3 yX3_figuresBehind wsX3_figuresBehind) := goodIn_app (goodIn_of _ (by decide +kernel)) ggX3_obey_X3_figuresBehind
theorem dX3_obey_0 : decode cX3_obey 0 = .ok (.iload_n 1, 1) := by decide +kernel
theorem dX3_obey_1 : decode cX3_obey 1 = .ok (.aload_n 0, 1) := by decide +kernel
theorem dX3_obey_2 : decode cX3_obey 2 = .ok (.getfield 61, 3) := by decide +kernel
theorem dX3_obey_5 : decode cX3_obey 5 = .ok (.invokestatic 52, 3) := by decide +kernel
theorem dX3_obey_8 : decode cX3_obey 8 = .ok (.istore_n 2, 1) := by decide +kernel
theorem dX3_obey_9 : decode cX3_obey 9 = .ok (.iload_n 2, 1) := by decide +kernel
theorem dX3_obey_10 : decode cX3_obey 10 = .ok (.bipush 54, 2) := by decide +kernel
theorem dX3_obey_12 : decode cX3_obey 12 = .ok (.if_icmp .ne 13, 3) := by decide +kernel
theorem dX3_obey_15 : decode cX3_obey 15 = .ok (.aload_n 0, 1) := by decide +kernel
theorem dX3_obey_16 : decode cX3_obey 16 = .ok (.getfield 19, 3) := by decide +kernel
theorem dX3_obey_19 : decode cX3_obey 19 = .ok (.invokevirtual 223, 3) := by decide +kernel
theorem dX3_obey_22 : decode cX3_obey 22 = .ok (.goto 28, 3) := by decide +kernel
theorem dX3_obey_25 : decode cX3_obey 25 = .ok (.iload_n 2, 1) := by decide +kernel
theorem dX3_obey_26 : decode cX3_obey 26 = .ok (.ifCond .eq 24, 3) := by decide +kernel
theorem dX3_obey_29 : decode cX3_obey 29 = .ok (.aload_n 0, 1) := by decide +kernel
theorem dX3_obey_30 : decode cX3_obey 30 = .ok (.getfield 19, 3) := by decide +kernel
theorem dX3_obey_33 : decode cX3_obey 33 = .ok (.iload_n 2, 1) := by decide +kernel
theorem dX3_obey_34 : decode cX3_obey 34 = .ok (.invokevirtual 226, 3) := by decide +kernel
theorem dX3_obey_37 : decode cX3_obey 37 = .ok (.ifCond .ne 13, 3) := by decide +kernel
theorem dX3_obey_40 : decode cX3_obey 40 = .ok (.aload_n 0, 1) := by decide +kernel
theorem dX3_obey_41 : decode cX3_obey 41 = .ok (.dup, 1) := by decide +kernel
theorem dX3_obey_42 : decode cX3_obey 42 = .ok (.getfield 201, 3) := by decide +kernel
theorem dX3_obey_45 : decode cX3_obey 45 = .ok (.iconst 1, 1) := by decide +kernel
theorem dX3_obey_46 : decode cX3_obey 46 = .ok (.iadd, 1) := by decide +kernel
theorem dX3_obey_47 : decode cX3_obey 47 = .ok (.putfield 201, 3) := by decide +kernel
theorem dX3_obey_50 : decode cX3_obey 50 = .ok (.iload_n 1, 1) := by decide +kernel
theorem dX3_obey_51 : decode cX3_obey 51 = .ok (.bipush 8, 2) := by decide +kernel
theorem dX3_obey_53 : decode cX3_obey 53 = .ok (.if_icmp .ne 13, 3) := by decide +kernel
theorem dX3_obey_56 : decode cX3_obey 56 = .ok (.aload_n 0, 1) := by decide +kernel
theorem dX3_obey_57 : decode cX3_obey 57 = .ok (.dup, 1) := by decide +kernel
theorem dX3_obey_58 : decode cX3_obey 58 = .ok (.getfield 204, 3) := by decide +kernel
theorem dX3_obey_61 : decode cX3_obey 61 = .ok (.iconst 1, 1) := by decide +kernel
theorem dX3_obey_62 : decode cX3_obey 62 = .ok (.iadd, 1) := by decide +kernel
theorem dX3_obey_63 : decode cX3_obey 63 = .ok (.putfield 204, 3) := by decide +kernel
theorem dX3_obey_66 : decode cX3_obey 66 = .ok (.aload_n 0, 1) := by decide +kernel
theorem dX3_obey_67 : decode cX3_obey 67 = .ok (.aload_n 0, 1) := by decide +kernel
theorem dX3_obey_68 : decode cX3_obey 68 = .ok (.iload_n 1, 1) := by decide +kernel
theorem dX3_obey_69 : decode cX3_obey 69 = .ok (.aload_n 0, 1) := by decide +kernel
theorem dX3_obey_70 : decode cX3_obey 70 = .ok (.getfield 61, 3) := by decide +kernel
theorem dX3_obey_73 : decode cX3_obey 73 = .ok (.invokevirtual 164, 3) := by decide +kernel
theorem dX3_obey_76 : decode cX3_obey 76 = .ok (.putfield 61, 3) := by decide +kernel
theorem dX3_obey_79 : decode cX3_obey 79 = .ok (.return_, 1) := by decide +kernel
end
section
theorem dX4_init_0 : decode cX4_init 0 = .ok (.aload_n 0, 1) := by decide +kernel
theorem dX4_init_1 : decode cX4_init 1 = .ok (.invokespecial 1, 3) := by decide +kernel
theorem dX4_init_4 : decode cX4_init 4 = .ok (.aload_n 0, 1) := by decide +kernel
theorem dX4_init_5 : decode cX4_init 5 = .ok (.iconst 1, 1) := by decide +kernel
theorem dX4_init_6 : decode cX4_init 6 = .ok (.putfield 7, 3) := by decide +kernel
theorem dX4_init_9 : decode cX4_init 9 = .ok (.aload_n 0, 1) := by decide +kernel
theorem dX4_init_10 : decode cX4_init 10 = .ok (.bipush 20, 2) := by decide +kernel
theorem dX4_init_12 : decode cX4_init 12 = .ok (.newarray .int, 2) := by decide +kernel
theorem dX4_init_14 : decode cX4_init 14 = .ok (.putfield 13, 3) := by decide +kernel
theorem dX4_init_17 : decode cX4_init 17 = .ok (.aload_n 0, 1) := by decide +kernel
theorem dX4_init_18 : decode cX4_init 18 = .ok (.sipush 800, 3) := by decide +kernel
theorem dX4_init_21 : decode cX4_init 21 = .ok (.newarray .int, 2) := by decide +kernel
theorem dX4_init_23 : decode cX4_init 23 = .ok (.putfield 17, 3) := by decide +kernel
theorem dX4_init_26 : decode cX4_init 26 = .ok (.aload_n 0, 1) := by decide +kernel
theorem dX4_init_27 : decode cX4_init 27 = .ok (.bipush 16, 2) := by decide +kernel
theorem dX4_init_29 : decode cX4_init 29 = .ok (.newarray .int, 2) := by decide +kernel
theorem dX4_init_31 : decode cX4_init 31 = .ok (.putfield 20, 3) := by decide +kernel
theorem dX4_init_34 : decode cX4_init 34 = .ok (.aload_n 0, 1) := by decide +kernel
theorem dX4_init_35 : decode cX4_init 35 = .ok (.bipush 16, 2) := by decide +kernel
theorem dX4_init_37 : decode cX4_init 37 = .ok (.newarray .int, 2) := by decide +kernel
theorem dX4_init_39 : decode cX4_init 39 = .ok (.putfield 23, 3) := by decide +kernel
theorem dX4_init_42 : decode cX4_init 42 = .ok (.aload_n 0, 1) := by decide +kernel
theorem dX4_init_43 : decode cX4_init 43 = .ok (.bipush 120, 2) := by decide +kernel
theorem dX4_init_45 : decode cX4_init 45 = .ok (.newarray .int, 2) := by decide +kernel
theorem dX4_init_47 : decode cX4_init 47 = .ok (.putfield 26, 3) := by decide +kernel
theorem dX4_init_50 : decode cX4_init 50 = .ok (.return_, 1) := by decide +kernel
theorem dX4_thrown_0 : decode cX4_thrown 0 = .ok (.aload_n 0, 1) := by decide +kernel
theorem dX4_thrown_1 : decode cX4_thrown 1 = .ok (.getfield 29, 3) := by decide +kernel
theorem dX4_thrown_4 : decode cX4_thrown 4 = .ok (.ireturn, 1) := by decide +kernel
theorem dX4_fail_0 : decode cX4_fail 0 = .ok (.aload_n 0, 1) := by decide +kernel
theorem dX4_fail_1 : decode cX4_fail 1 = .ok (.iload_n 1, 1) := by decide +kernel
theorem dX4_fail_2 : decode cX4_fail 2 = .ok (.putfield 29, 3) := by decide +kernel
theorem dX4_fail_5 : decode cX4_fail 5 = .ok (.iconst 0, 1) := by decide +kernel
theorem dX4_fail_6 : decode cX4_fail 6 = .ok (.ireturn, 1) := by decide +kernel
theorem dX4_isIn_0 : decode cX4_isIn 0 = .ok (.iload_n 0, 1) := by decide +kernel
theorem dX4_isIn_1 : decode cX4_isIn 1 = .ok (.iload_n 1, 1) := by decide +kernel
theorem dX4_isIn_2 : decode cX4_isIn 2 = .ok (.if_icmp .lt 12, 3) := by decide +kernel
theorem dX4_isIn_5 : decode cX4_isIn 5 = .ok (.iload_n 0, 1) := by decide +kernel
theorem dX4_isIn_6 : decode cX4_isIn 6 = .ok (.iload_n 2, 1) := by decide +kernel
theorem dX4_isIn_7 : decode cX4_isIn 7 = .ok (.if_icmp .gt 7, 3) := by decide +kernel
theorem dX4_isIn_10 : decode cX4_isIn 10 = .ok (.iconst 1, 1) := by decide +kernel
theorem dX4_isIn_11 : decode cX4_isIn 11 = .ok (.goto 4, 3) := by decide +kernel
theorem dX4_isIn_14 : decode cX4_isIn 14 = .ok (.iconst 0, 1) := by decide +kernel
theorem dX4_isIn_15 : decode cX4_isIn 15 = .ok (.ireturn, 1) := by decide +kernel
set_option maxRecDepth 20000 in
theorem ggX4_isCode_X4_isIn : GoodIn wsX4_isCode wsX4_isIn := goodIn_r _ [4] (by decide +kernel) (by decide +kernel)
set_option maxRecDepth 20000 in
theorem gX4_isCode_X4_isIn : GoodIn wsX4_isCode (va_wsS RX4 32 yX4_isIn wsX4_isIn) := goodIn_app (goodIn_of _ (by decide +kernel)) ggX4_isCode_X4_isIn
theorem dX4_isCode_0 : decode cX4_isCode 0 = .ok (.iload_n 0, 1) := by decide +kernel
theorem dX4_isCode_1 : decode cX4_isCode 1 = .ok (.iconst 0, 1) := by decide +kernel
theorem dX4_isCode_2 : decode cX4_isCode 2 = .ok (.bipush 31, 2) := by decide +kernel
theorem dX4_isCode_4 : decode cX4_isCode 4 = .ok (.invokestatic 32, 3) := by decide +kernel
theorem dX4_isCode_7 : decode cX4_isCode 7 = .ok (.ireturn, 1) := by decide +kernel
set_option maxRecDepth 20000 in
theorem ggX4_isCharacter_X4_isIn : GoodIn wsX4_isCharacter wsX4_isIn := goodIn_r _ [4] (by decide +kernel) (by decide +kernel)
set_option maxRecDepth 20000 in
theorem gX4_isCharacter_X4_isIn : GoodIn wsX4_isCharacter (va_wsS RX4 32 yX4_isIn wsX4_isIn) := goodIn_app (goodIn_of _ (by decide +kernel)) ggX4_isCharacter_X4_isIn
theorem dX4_isCharacter_0 : decode cX4_isCharacter 0 = .ok (.iload_n 0, 1) := by decide +kernel
theorem dX4_isCharacter_1 : decode cX4_isCharacter 1 = .ok (.iconst 1, 1) := by decide +kernel
theorem dX4_isCharacter_2 : decode cX4_isCharacter 2 = .ok (.bipush 54, 2) := by decide +kernel
theorem dX4_isCharacter_4 : decode cX4_isCharacter 4 = .ok (.invokestatic 32, 3) := by decide +kernel
theorem dX4_isCharacter_7 : decode cX4_isCharacter 7 = .ok (.ireturn, 1) := by decide +kernel
theorem dX4_isType_0 : decode cX4_isType 0 = .ok (.iload_n 0, 1) := by decide +kernel
theorem dX4_isType_1 : decode cX4_isType 1 = .ok (.bipush 31, 2) := by decide +kernel
theorem dX4_isType_3 : decode cX4_isType 3 = .ok (.if_icmp .eq 33, 3) := by decide +kernel
theorem dX4_isType_6 : decode cX4_isType 6 = .ok (.iload_n 0, 1) := by decide +kernel
theorem dX4_isType_7 : decode cX4_isType 7 = .ok (.bipush 27, 2) := by decide +kernel
theorem dX4_isType_9 : decode cX4_isType 9 = .ok (.if_icmp .eq 27, 3) := by decide +kernel
theorem dX4_isType_12 : decode cX4_isType 12 = .ok (.iload_n 0, 1) := by decide +kernel
theorem dX4_isType_13 : decode cX4_isType 13 = .ok (.iconst 4, 1) := by decide +kernel
theorem dX4_isType_14 : decode cX4_isType 14 = .ok (.if_icmp .eq 22, 3) := by decide +kernel
theorem dX4_isType_17 : decode cX4_isType 17 = .ok (.iload_n 0, 1) := by decide +kernel
theorem dX4_isType_18 : decode cX4_isType 18 = .ok (.iconst 2, 1) := by decide +kernel
theorem dX4_isType_19 : decode cX4_isType 19 = .ok (.if_icmp .eq 17, 3) := by decide +kernel
theorem dX4_isType_22 : decode cX4_isType 22 = .ok (.iload_n 0, 1) := by decide +kernel
theorem dX4_isType_23 : decode cX4_isType 23 = .ok (.bipush 8, 2) := by decide +kernel
theorem dX4_isType_25 : decode cX4_isType 25 = .ok (.if_icmp .eq 11, 3) := by decide +kernel
theorem dX4_isType_28 : decode cX4_isType 28 = .ok (.iload_n 0, 1) := by decide +kernel
theorem dX4_isType_29 : decode cX4_isType 29 = .ok (.ifCond .eq 7, 3) := by decide +kernel
theorem dX4_isType_32 : decode cX4_isType 32 = .ok (.iconst 1, 1) := by decide +kernel
theorem dX4_isType_33 : decode cX4_isType 33 = .ok (.goto 4, 3) := by decide +kernel
theorem dX4_isType_36 : decode cX4_isType 36 = .ok (.iconst 0, 1) := by decide +kernel
theorem dX4_isType_37 : decode cX4_isType 37 = .ok (.ireturn, 1) := by decide +kernel
set_option maxRecDepth 20000 in
theorem ggX4_codeOf_X4_isType : GoodIn wsX4_codeOf wsX4_isType := goodIn_r _ [4] (by decide +kernel) (by decide +kernel)
set_option maxRecDepth 20000 in
theorem gX4_codeOf_X4_isType : GoodIn wsX4_codeOf (va_wsS RX4 36 yX4_isType wsX4_isType) := goodIn_app (goodIn_of _ (by decide +kernel)) ggX4_codeOf_X4_isType
theorem dX4_codeOf_0 : decode cX4_codeOf 0 = .ok (.iload_n 0, 1) := by decide +kernel
theorem dX4_codeOf_1 : decode cX4_codeOf 1 = .ok (.bipush 53, 2) := by decide +kernel
theorem dX4_codeOf_3 : decode cX4_codeOf 3 = .ok (.if_icmp .ne 5, 3) := by decide +kernel
theorem dX4_codeOf_6 : decode cX4_codeOf 6 = .ok (.iconst 4, 1) := by decide +kernel
theorem dX4_codeOf_7 : decode cX4_codeOf 7 = .ok (.ireturn, 1) := by decide +kernel
theorem dX4_codeOf_8 : decode cX4_codeOf 8 = .ok (.iload_n 0, 1) := by decide +kernel
theorem dX4_codeOf_9 : decode cX4_codeOf 9 = .ok (.bipush 54, 2) := by decide +kernel
theorem dX4_codeOf_11 : decode cX4_codeOf 11 = .ok (.if_icmp .ne 5, 3) := by decide +kernel
theorem dX4_codeOf_14 : decode cX4_codeOf 14 = .ok (.iconst 2, 1) := by decide +kernel
theorem dX4_codeOf_15 : decode cX4_codeOf 15 = .ok (.ireturn, 1) := by decide +kernel
theorem dX4_codeOf_16 : decode cX4_codeOf 16 = .ok (.iload_n 0, 1) := by decide +kernel
theorem dX4_codeOf_17 : decode cX4_codeOf 17 = .ok (.bipush 26, 2) := by decide +kernel
theorem dX4_codeOf_19 : decode cX4_codeOf 19 = .ok (.if_icmp .le 10, 3) := by decide +kernel
theorem dX4_codeOf_22 : decode cX4_codeOf 22 = .ok (.iload_n 0, 1) := by decide +kernel
theorem dX4_codeOf_23 : decode cX4_codeOf 23 = .ok (.bipush 26, 2) := by decide +kernel
theorem dX4_codeOf_25 : decode cX4_codeOf 25 = .ok (.isub, 1) := by decide +kernel
theorem dX4_codeOf_26 : decode cX4_codeOf 26 = .ok (.goto 4, 3) := by decide +kernel
theorem dX4_codeOf_29 : decode cX4_codeOf 29 = .ok (.iload_n 0, 1) := by decide +kernel
theorem dX4_codeOf_30 : decode cX4_codeOf 30 = .ok (.istore_n 1, 1) := by decide +kernel
theorem dX4_codeOf_31 : decode cX4_codeOf 31 = .ok (.iconst 0, 1) := by decide +kernel
theorem dX4_codeOf_32 : decode cX4_codeOf 32 = .ok (.istore_n 2, 1) := by decide +kernel
theorem dX4_codeOf_33 : decode cX4_codeOf 33 = .ok (.iload_n 1, 1) := by decide +kernel
theorem dX4_codeOf_34 : decode cX4_codeOf 34 = .ok (.ifCond .le 24, 3) := by decide +kernel
theorem dX4_codeOf_37 : decode cX4_codeOf 37 = .ok (.iinc 2 1, 3) := by decide +kernel
theorem dX4_codeOf_40 : decode cX4_codeOf 40 = .ok (.iload_n 1, 1) := by decide +kernel
theorem dX4_codeOf_41 : decode cX4_codeOf 41 = .ok (.iload_n 2, 1) := by decide +kernel
theorem dX4_codeOf_42 : decode cX4_codeOf 42 = .ok (.invokestatic 36, 3) := by decide +kernel
theorem dX4_codeOf_45 : decode cX4_codeOf 45 = .ok (.ifCond .eq 7, 3) := by decide +kernel
theorem dX4_codeOf_48 : decode cX4_codeOf 48 = .ok (.iconst 1, 1) := by decide +kernel
theorem dX4_codeOf_49 : decode cX4_codeOf 49 = .ok (.goto 4, 3) := by decide +kernel
theorem dX4_codeOf_52 : decode cX4_codeOf 52 = .ok (.iconst 0, 1) := by decide +kernel
theorem dX4_codeOf_53 : decode cX4_codeOf 53 = .ok (.isub, 1) := by decide +kernel
theorem dX4_codeOf_54 : decode cX4_codeOf 54 = .ok (.istore_n 1, 1) := by decide +kernel
theorem dX4_codeOf_55 : decode cX4_codeOf 55 = .ok (.goto (-22), 3) := by decide +kernel
theorem dX4_codeOf_58 : decode cX4_codeOf 58 = .ok (.iload_n 2, 1) := by decide +kernel
theorem dX4_codeOf_59 : decode cX4_codeOf 59 = .ok (.ireturn, 1) := by decide +kernel
set_option maxRecDepth 20000 in
theorem ggX4_characterOf_X4_isType : GoodIn wsX4_characterOf wsX4_isType := goodIn_r _ [4] (by decide +kernel) (by decide +kernel)
set_option maxRecDepth 20000 in
theorem gX4_characterOf_X4_isType : GoodIn wsX4_characterOf (va_wsS RX4 36 yX4_isType wsX4_isType) := goodIn_app (goodIn_of _ (by decide +kernel)) ggX4_characterOf_X4_isType
theorem dX4_characterOf_0 : decode cX4_characterOf 0 = .ok (.iload_n 0, 1) := by decide +kernel
theorem dX4_characterOf_1 : decode cX4_characterOf 1 = .ok (.iconst 4, 1) := by decide +kernel
theorem dX4_characterOf_2 : decode cX4_characterOf 2 = .ok (.if_icmp .ne 6, 3) := by decide +kernel
theorem dX4_characterOf_5 : decode cX4_characterOf 5 = .ok (.bipush 53, 2) := by decide +kernel
theorem dX4_characterOf_7 : decode cX4_characterOf 7 = .ok (.ireturn, 1) := by decide +kernel
theorem dX4_characterOf_8 : decode cX4_characterOf 8 = .ok (.iload_n 0, 1) := by decide +kernel
theorem dX4_characterOf_9 : decode cX4_characterOf 9 = .ok (.iconst 2, 1) := by decide +kernel
theorem dX4_characterOf_10 : decode cX4_characterOf 10 = .ok (.if_icmp .ne 6, 3) := by decide +kernel
theorem dX4_characterOf_13 : decode cX4_characterOf 13 = .ok (.bipush 54, 2) := by decide +kernel
theorem dX4_characterOf_15 : decode cX4_characterOf 15 = .ok (.ireturn, 1) := by decide +kernel
theorem dX4_characterOf_16 : decode cX4_characterOf 16 = .ok (.iload_n 0, 1) := by decide +kernel
theorem dX4_characterOf_17 : decode cX4_characterOf 17 = .ok (.invokestatic 36, 3) := by decide +kernel
theorem dX4_characterOf_20 : decode cX4_characterOf 20 = .ok (.ifCond .ne 5, 3) := by decide +kernel
theorem dX4_characterOf_23 : decode cX4_characterOf 23 = .ok (.iconst 0, 1) := by decide +kernel
theorem dX4_characterOf_24 : decode cX4_characterOf 24 = .ok (.ireturn, 1) := by decide +kernel
theorem dX4_characterOf_25 : decode cX4_characterOf 25 = .ok (.iconst 0, 1) := by decide +kernel
theorem dX4_characterOf_26 : decode cX4_characterOf 26 = .ok (.istore_n 2, 1) := by decide +kernel
theorem dX4_characterOf_27 : decode cX4_characterOf 27 = .ok (.iconst 1, 1) := by decide +kernel
theorem dX4_characterOf_28 : decode cX4_characterOf 28 = .ok (.istore_n 3, 1) := by decide +kernel
theorem dX4_characterOf_29 : decode cX4_characterOf 29 = .ok (.iload_n 3, 1) := by decide +kernel
theorem dX4_characterOf_30 : decode cX4_characterOf 30 = .ok (.iload_n 0, 1) := by decide +kernel
theorem dX4_characterOf_31 : decode cX4_characterOf 31 = .ok (.if_icmp .gt 24, 3) := by decide +kernel
theorem dX4_characterOf_34 : decode cX4_characterOf 34 = .ok (.iload_n 2, 1) := by decide +kernel
theorem dX4_characterOf_35 : decode cX4_characterOf 35 = .ok (.iload_n 3, 1) := by decide +kernel
theorem dX4_characterOf_36 : decode cX4_characterOf 36 = .ok (.invokestatic 36, 3) := by decide +kernel
theorem dX4_characterOf_39 : decode cX4_characterOf 39 = .ok (.ifCond .eq 7, 3) := by decide +kernel
theorem dX4_characterOf_42 : decode cX4_characterOf 42 = .ok (.iconst 1, 1) := by decide +kernel
theorem dX4_characterOf_43 : decode cX4_characterOf 43 = .ok (.goto 4, 3) := by decide +kernel
theorem dX4_characterOf_46 : decode cX4_characterOf 46 = .ok (.iconst 0, 1) := by decide +kernel
theorem dX4_characterOf_47 : decode cX4_characterOf 47 = .ok (.iadd, 1) := by decide +kernel
theorem dX4_characterOf_48 : decode cX4_characterOf 48 = .ok (.istore_n 2, 1) := by decide +kernel
theorem dX4_characterOf_49 : decode cX4_characterOf 49 = .ok (.iinc 3 1, 3) := by decide +kernel
theorem dX4_characterOf_52 : decode cX4_characterOf 52 = .ok (.goto (-23), 3) := by decide +kernel
theorem dX4_characterOf_55 : decode cX4_characterOf 55 = .ok (.iload_n 1, 1) := by decide +kernel
theorem dX4_characterOf_56 : decode cX4_characterOf 56 = .ok (.ifCond .eq 10, 3) := by decide +kernel
theorem dX4_characterOf_59 : decode cX4_characterOf 59 = .ok (.iload_n 2, 1) := by decide +kernel
theorem dX4_characterOf_60 : decode cX4_characterOf 60 = .ok (.bipush 26, 2) := by decide +kernel
theorem dX4_characterOf_62 : decode cX4_characterOf 62 = .ok (.iadd, 1) := by decide +kernel
theorem dX4_characterOf_63 : decode cX4_characterOf 63 = .ok (.goto 4, 3) := by decide +kernel
theorem dX4_characterOf_66 : decode cX4_characterOf 66 = .ok (.iload_n 2, 1) := by decide +kernel
theorem dX4_characterOf_67 : decode cX4_characterOf 67 = .ok (.ireturn, 1) := by decide +kernel
theorem dX4_size_0 : decode cX4_size 0 = .ok (.iconst 0, 1) := by decide +kernel
theorem dX4_size_1 : decode cX4_size 1 = .ok (.istore_n 1, 1) := by decide +kernel
theorem dX4_size_2 : decode cX4_size 2 = .ok (.iconst 0, 1) := by decide +kernel
theorem dX4_size_3 : decode cX4_size 3 = .ok (.istore_n 2, 1) := by decide +kernel
theorem dX4_size_4 : decode cX4_size 4 = .ok (.iload_n 2, 1) := by decide +kernel
theorem dX4_size_5 : decode cX4_size 5 = .ok (.iconst 5, 1) := by decide +kernel
theorem dX4_size_6 : decode cX4_size 6 = .ok (.if_icmp .ge 17, 3) := by decide +kernel
theorem dX4_size_9 : decode cX4_size 9 = .ok (.iload_n 1, 1) := by decide +kernel
theorem dX4_size_10 : decode cX4_size 10 = .ok (.iload_n 0, 1) := by decide +kernel
theorem dX4_size_11 : decode cX4_size 11 = .ok (.iload_n 2, 1) := by decide +kernel
theorem dX4_size_12 : decode cX4_size 12 = .ok (.ishr, 1) := by decide +kernel
theorem dX4_size_13 : decode cX4_size 13 = .ok (.iconst 1, 1) := by decide +kernel
theorem dX4_size_14 : decode cX4_size 14 = .ok (.iand, 1) := by decide +kernel
theorem dX4_size_15 : decode cX4_size 15 = .ok (.iadd, 1) := by decide +kernel
theorem dX4_size_16 : decode cX4_size 16 = .ok (.istore_n 1, 1) := by decide +kernel
theorem dX4_size_17 : decode cX4_size 17 = .ok (.iinc 2 1, 3) := by decide +kernel
theorem dX4_size_20 : decode cX4_size 20 = .ok (.goto (-16), 3) := by decide +kernel
theorem dX4_size_23 : decode cX4_size 23 = .ok (.iload_n 1, 1) := by decide +kernel
theorem dX4_size_24 : decode cX4_size 24 = .ok (.ireturn, 1) := by decide +kernel
set_option maxRecDepth 20000 in
theorem ggX4_code_X4_isCharacter : GoodIn wsX4_code wsX4_isCharacter := goodIn_r _ [5, 6, 7, 4, 8] (by decide +kernel) (by decide +kernel)
set_option maxRecDepth 20000 in
theorem gX4_code_X4_isCharacter : GoodIn wsX4_code (va_wsS RX4 40 yX4_isCharacter wsX4_isCharacter) := goodIn_app (goodIn_of _ (by decide +kernel)) ggX4_code_X4_isCharacter
set_option maxRecDepth 20000 in
theorem ggX4_code_X4_codeOf : GoodIn wsX4_code wsX4_codeOf := goodIn_r _ [11, 12, 13, 4, 14] (by decide +kernel) (by decide +kernel)
set_option maxRecDepth 20000 in
theorem gX4_code_X4_codeOf : GoodIn wsX4_code (va_wsS RX4 43 yX4_codeOf wsX4_codeOf) := goodIn_app (goodIn_of _ (by decide +kernel)) ggX4_code_X4_codeOf
set_option maxRecDepth 20000 in
theorem ggX4_code_X4_fail : GoodIn wsX4_code wsX4_fail := goodIn_r _ [18, 1, 19, 20, 21, 22, 23, 24, 25, 26, 27, 28, 29, 30, 31, 32, 33, 34] (by decide +kernel) (by decide +kernel)
set_option maxRecDepth 20000 in
theorem gX4_code_X4_fail : GoodIn wsX4_code (wsV RX4 47 RX4 yX4_fail wsX4_fail) := goodIn_app (goodIn_of _ (by decide +kernel)) ggX4_code_X4_fail
theorem dX4_code_0 : decode cX4_code 0 = .ok (.aload_n 0, 1) := by decide +kernel
theorem dX4_code_1 : decode cX4_code 1 = .ok (.iconst 0, 1) := by decide +kernel
theorem dX4_code_2 : decode cX4_code 2 = .ok (.putfield 29, 3) := by decide +kernel
theorem dX4_code_5 : decode cX4_code 5 = .ok (.iload_n 1, 1) := by decide +kernel
theorem dX4_code_6 : decode cX4_code 6 = .ok (.invokestatic 40, 3) := by decide +kernel
theorem dX4_code_9 : decode cX4_code 9 = .ok (.ifCond .eq 10, 3) := by decide +kernel
theorem dX4_code_12 : decode cX4_code 12 = .ok (.iload_n 1, 1) := by decide +kernel
theorem dX4_code_13 : decode cX4_code 13 = .ok (.invokestatic 43, 3) := by decide +kernel
theorem dX4_code_16 : decode cX4_code 16 = .ok (.goto 8, 3) := by decide +kernel
theorem dX4_code_19 : decode cX4_code 19 = .ok (.aload_n 0, 1) := by decide +kernel
theorem dX4_code_20 : decode cX4_code 20 = .ok (.iconst 1, 1) := by decide +kernel
theorem dX4_code_21 : decode cX4_code 21 = .ok (.invokevirtual 47, 3) := by decide +kernel
theorem dX4_code_24 : decode cX4_code 24 = .ok (.ireturn, 1) := by decide +kernel
set_option maxRecDepth 20000 in
theorem ggX4_character_X4_isCode : GoodIn wsX4_character wsX4_isCode := goodIn_r _ [5, 6, 7, 4, 8] (by decide +kernel) (by decide +kernel)
set_option maxRecDepth 20000 in
theorem gX4_character_X4_isCode : GoodIn wsX4_character (va_wsS RX4 50 yX4_isCode wsX4_isCode) := goodIn_app (goodIn_of _ (by decide +kernel)) ggX4_character_X4_isCode
set_option maxRecDepth 20000 in
theorem ggX4_character_X4_characterOf : GoodIn wsX4_character wsX4_characterOf := goodIn_r _ [11, 12, 13, 4, 14] (by decide +kernel) (by decide +kernel)
set_option maxRecDepth 20000 in
theorem gX4_character_X4_characterOf : GoodIn wsX4_character (va_wsS RX4 53 yX4_characterOf wsX4_characterOf) := goodIn_app (goodIn_of _ (by decide +kernel)) ggX4_character_X4_characterOf
set_option maxRecDepth 20000 in
theorem ggX4_character_X4_fail : GoodIn wsX4_character wsX4_fail := goodIn_r _ [18, 1, 19, 20, 21, 22, 23, 24, 25, 26, 27, 28, 29, 30, 31, 32, 33, 34] (by decide +kernel) (by decide +kernel)
set_option maxRecDepth 20000 in
theorem gX4_character_X4_fail : GoodIn wsX4_character (wsV RX4 47 RX4 yX4_fail wsX4_fail) := goodIn_app (goodIn_of _ (by decide +kernel)) ggX4_character_X4_fail
theorem dX4_character_0 : decode cX4_character 0 = .ok (.aload_n 0, 1) := by decide +kernel
theorem dX4_character_1 : decode cX4_character 1 = .ok (.iconst 0, 1) := by decide +kernel
theorem dX4_character_2 : decode cX4_character 2 = .ok (.putfield 29, 3) := by decide +kernel
theorem dX4_character_5 : decode cX4_character 5 = .ok (.iload_n 1, 1) := by decide +kernel
theorem dX4_character_6 : decode cX4_character 6 = .ok (.invokestatic 50, 3) := by decide +kernel
theorem dX4_character_9 : decode cX4_character 9 = .ok (.ifCond .eq 11, 3) := by decide +kernel
theorem dX4_character_12 : decode cX4_character 12 = .ok (.iload_n 1, 1) := by decide +kernel
theorem dX4_character_13 : decode cX4_character 13 = .ok (.iload_n 2, 1) := by decide +kernel
theorem dX4_character_14 : decode cX4_character 14 = .ok (.invokestatic 53, 3) := by decide +kernel
theorem dX4_character_17 : decode cX4_character 17 = .ok (.goto 8, 3) := by decide +kernel
theorem dX4_character_20 : decode cX4_character 20 = .ok (.aload_n 0, 1) := by decide +kernel
theorem dX4_character_21 : decode cX4_character 21 = .ok (.iconst 1, 1) := by decide +kernel
theorem dX4_character_22 : decode cX4_character 22 = .ok (.invokevirtual 47, 3) := by decide +kernel
theorem dX4_character_25 : decode cX4_character 25 = .ok (.ireturn, 1) := by decide +kernel
set_option maxRecDepth 20000 in
theorem ggX4_apart_X4_isCharacter : GoodIn wsX4_apart wsX4_isCharacter := goodIn_r _ [5, 6, 7, 4, 8] (by decide +kernel) (by decide +kernel)
set_option maxRecDepth 20000 in
theorem gX4_apart_X4_isCharacter : GoodIn wsX4_apart (va_wsS RX4 40 yX4_isCharacter wsX4_isCharacter) := goodIn_app (goodIn_of _ (by decide +kernel)) ggX4_apart_X4_isCharacter
set_option maxRecDepth 20000 in
theorem ggX4_apart_X4_codeOf : GoodIn wsX4_apart wsX4_codeOf := goodIn_r _ [11, 12, 13, 4, 14] (by decide +kernel) (by decide +kernel)
set_option maxRecDepth 20000 in
theorem gX4_apart_X4_codeOf : GoodIn wsX4_apart (va_wsS RX4 43 yX4_codeOf wsX4_codeOf) := goodIn_app (goodIn_of _ (by decide +kernel)) ggX4_apart_X4_codeOf
set_option maxRecDepth 20000 in
theorem ggX4_apart_X4_size : GoodIn wsX4_apart wsX4_size := goodIn_r _ [17] (by decide +kernel) (by decide +kernel)
set_option maxRecDepth 20000 in
theorem gX4_apart_X4_size : GoodIn wsX4_apart (va_wsS RX4 57 yX4_size wsX4_size) := goodIn_app (goodIn_of _ (by decide +kernel)) ggX4_apart_X4_size
set_option maxRecDepth 20000 in
theorem ggX4_apart_X4_fail : GoodIn wsX4_apart wsX4_fail := goodIn_r _ [21, 1, 22, 23, 24, 25, 26, 27, 28, 29, 30, 31, 32, 33, 34, 35, 36, 37] (by decide +kernel) (by decide +kernel)
set_option maxRecDepth 20000 in
theorem gX4_apart_X4_fail : GoodIn wsX4_apart (wsV RX4 47 RX4 yX4_fail wsX4_fail) := goodIn_app (goodIn_of _ (by decide +kernel)) ggX4_apart_X4_fail
theorem dX4_apart_0 : decode cX4_apart 0 = .ok (.aload_n 0, 1) := by decide +kernel
theorem dX4_apart_1 : decode cX4_apart 1 = .ok (.iconst 0, 1) := by decide +kernel
theorem dX4_apart_2 : decode cX4_apart 2 = .ok (.putfield 29, 3) := by decide +kernel
theorem dX4_apart_5 : decode cX4_apart 5 = .ok (.iload_n 1, 1) := by decide +kernel
theorem dX4_apart_6 : decode cX4_apart 6 = .ok (.invokestatic 40, 3) := by decide +kernel
theorem dX4_apart_9 : decode cX4_apart 9 = .ok (.ifCond .eq 25, 3) := by decide +kernel
theorem dX4_apart_12 : decode cX4_apart 12 = .ok (.iload_n 2, 1) := by decide +kernel
theorem dX4_apart_13 : decode cX4_apart 13 = .ok (.invokestatic 40, 3) := by decide +kernel
theorem dX4_apart_16 : decode cX4_apart 16 = .ok (.ifCond .eq 18, 3) := by decide +kernel
theorem dX4_apart_19 : decode cX4_apart 19 = .ok (.iload_n 1, 1) := by decide +kernel
theorem dX4_apart_20 : decode cX4_apart 20 = .ok (.invokestatic 43, 3) := by decide +kernel
theorem dX4_apart_23 : decode cX4_apart 23 = .ok (.iload_n 2, 1) := by decide +kernel
theorem dX4_apart_24 : decode cX4_apart 24 = .ok (.invokestatic 43, 3) := by decide +kernel
theorem dX4_apart_27 : decode cX4_apart 27 = .ok (.ixor, 1) := by decide +kernel
theorem dX4_apart_28 : decode cX4_apart 28 = .ok (.invokestatic 57, 3) := by decide +kernel
theorem dX4_apart_31 : decode cX4_apart 31 = .ok (.goto 8, 3) := by decide +kernel
theorem dX4_apart_34 : decode cX4_apart 34 = .ok (.aload_n 0, 1) := by decide +kernel
theorem dX4_apart_35 : decode cX4_apart 35 = .ok (.iconst 1, 1) := by decide +kernel
theorem dX4_apart_36 : decode cX4_apart 36 = .ok (.invokevirtual 47, 3) := by decide +kernel
theorem dX4_apart_39 : decode cX4_apart 39 = .ok (.ireturn, 1) := by decide +kernel
set_option maxRecDepth 20000 in
theorem ggX4_doubts_X4_isCode : GoodIn wsX4_doubts wsX4_isCode := goodIn_r _ [6, 7, 8, 5, 9] (by decide +kernel) (by decide +kernel)
set_option maxRecDepth 20000 in
theorem gX4_doubts_X4_isCode : GoodIn wsX4_doubts (va_wsS RX4 50 yX4_isCode wsX4_isCode) := goodIn_app (goodIn_of _ (by decide +kernel)) ggX4_doubts_X4_isCode
set_option maxRecDepth 20000 in
theorem ggX4_doubts_X4_fail : GoodIn wsX4_doubts wsX4_fail := goodIn_r _ [13, 1, 20, 21, 22, 23, 24, 25, 26, 27, 28, 29, 30, 31, 32, 33, 34, 35] (by decide +kernel) (by decide +kernel)
set_option maxRecDepth 20000 in
theorem gX4_doubts_X4_fail : GoodIn wsX4_doubts (wsV RX4 47 RX4 yX4_fail wsX4_fail) := goodIn_app (goodIn_of _ (by decide +kernel)) ggX4_doubts_X4_fail
set_option maxRecDepth 20000 in
theorem ggX4_doubts_X4_characterOf : GoodIn wsX4_doubts wsX4_characterOf := goodIn_r _ [16, 17, 18, 5, 19] (by decide +kernel) (by decide +kernel)
set_option maxRecDepth 20000 in
theorem gX4_doubts_X4_characterOf : GoodIn wsX4_doubts (va_wsS RX4 53 yX4_characterOf wsX4_characterOf) := goodIn_app (goodIn_of _ (by decide +kernel)) ggX4_doubts_X4_characterOf
theorem dX4_doubts_0 : decode cX4_doubts 0 = .ok (.aload_n 0, 1) := by decide +kernel
theorem dX4_doubts_1 : decode cX4_doubts 1 = .ok (.iconst 0, 1) := by decide +kernel
theorem dX4_doubts_2 : decode cX4_doubts 2 = .ok (.putfield 29, 3) := by decide +kernel
theorem dX4_doubts_5 : decode cX4_doubts 5 = .ok (.iload_n 1, 1) := by decide +kernel
theorem dX4_doubts_6 : decode cX4_doubts 6 = .ok (.invokestatic 50, 3) := by decide +kernel
theorem dX4_doubts_9 : decode cX4_doubts 9 = .ok (.ifCond .ne 9, 3) := by decide +kernel
theorem dX4_doubts_12 : decode cX4_doubts 12 = .ok (.aload_n 0, 1) := by decide +kernel
theorem dX4_doubts_13 : decode cX4_doubts 13 = .ok (.iconst 1, 1) := by decide +kernel
theorem dX4_doubts_14 : decode cX4_doubts 14 = .ok (.invokevirtual 47, 3) := by decide +kernel
theorem dX4_doubts_17 : decode cX4_doubts 17 = .ok (.ireturn, 1) := by decide +kernel
theorem dX4_doubts_18 : decode cX4_doubts 18 = .ok (.iconst 0, 1) := by decide +kernel
theorem dX4_doubts_19 : decode cX4_doubts 19 = .ok (.istore_n 2, 1) := by decide +kernel
theorem dX4_doubts_20 : decode cX4_doubts 20 = .ok (.iconst 0, 1) := by decide +kernel
theorem dX4_doubts_21 : decode cX4_doubts 21 = .ok (.istore_n 3, 1) := by decide +kernel
theorem dX4_doubts_22 : decode cX4_doubts 22 = .ok (.iload_n 3, 1) := by decide +kernel
theorem dX4_doubts_23 : decode cX4_doubts 23 = .ok (.iconst 5, 1) := by decide +kernel
theorem dX4_doubts_24 : decode cX4_doubts 24 = .ok (.if_icmp .ge 40, 3) := by decide +kernel
theorem dX4_doubts_27 : decode cX4_doubts 27 = .ok (.iload_n 2, 1) := by decide +kernel
theorem dX4_doubts_28 : decode cX4_doubts 28 = .ok (.iload_n 1, 1) := by decide +kernel
theorem dX4_doubts_29 : decode cX4_doubts 29 = .ok (.iconst 1, 1) := by decide +kernel
theorem dX4_doubts_30 : decode cX4_doubts 30 = .ok (.iload_n 3, 1) := by decide +kernel
theorem dX4_doubts_31 : decode cX4_doubts 31 = .ok (.ishl, 1) := by decide +kernel
theorem dX4_doubts_32 : decode cX4_doubts 32 = .ok (.ixor, 1) := by decide +kernel
theorem dX4_doubts_33 : decode cX4_doubts 33 = .ok (.aload_n 0, 1) := by decide +kernel
theorem dX4_doubts_34 : decode cX4_doubts 34 = .ok (.getfield 60, 3) := by decide +kernel
theorem dX4_doubts_37 : decode cX4_doubts 37 = .ok (.invokestatic 53, 3) := by decide +kernel
theorem dX4_doubts_40 : decode cX4_doubts 40 = .ok (.iload_n 1, 1) := by decide +kernel
theorem dX4_doubts_41 : decode cX4_doubts 41 = .ok (.aload_n 0, 1) := by decide +kernel
theorem dX4_doubts_42 : decode cX4_doubts 42 = .ok (.getfield 60, 3) := by decide +kernel
theorem dX4_doubts_45 : decode cX4_doubts 45 = .ok (.invokestatic 53, 3) := by decide +kernel
theorem dX4_doubts_48 : decode cX4_doubts 48 = .ok (.if_icmp .eq 7, 3) := by decide +kernel
theorem dX4_doubts_51 : decode cX4_doubts 51 = .ok (.iconst 1, 1) := by decide +kernel
theorem dX4_doubts_52 : decode cX4_doubts 52 = .ok (.goto 4, 3) := by decide +kernel
theorem dX4_doubts_55 : decode cX4_doubts 55 = .ok (.iconst 0, 1) := by decide +kernel
theorem dX4_doubts_56 : decode cX4_doubts 56 = .ok (.iadd, 1) := by decide +kernel
theorem dX4_doubts_57 : decode cX4_doubts 57 = .ok (.istore_n 2, 1) := by decide +kernel
theorem dX4_doubts_58 : decode cX4_doubts 58 = .ok (.iinc 3 1, 3) := by decide +kernel
theorem dX4_doubts_61 : decode cX4_doubts 61 = .ok (.goto (-39), 3) := by decide +kernel
theorem dX4_doubts_64 : decode cX4_doubts 64 = .ok (.iload_n 2, 1) := by decide +kernel
theorem dX4_doubts_65 : decode cX4_doubts 65 = .ok (.ireturn, 1) := by decide +kernel
set_option maxRecDepth 20000 in
theorem ggX4_setLine_X4_isIn : GoodIn wsX4_setLine wsX4_isIn := goodIn_r _ [7] (by decide +kernel) (by decide +kernel)
set_option maxRecDepth 20000 in
theorem gX4_setLine_X4_isIn : GoodIn wsX4_setLine (va_wsS RX4 32 yX4_isIn wsX4_isIn) := goodIn_app (goodIn_of _ (by decide +kernel)) ggX4_setLine_X4_isIn
set_option maxRecDepth 20000 in
theorem ggX4_setLine_X4_fail : GoodIn wsX4_setLine wsX4_fail := goodIn_r _ [11, 1, 15, 16, 17, 18, 19, 20, 21, 22, 23, 24, 25, 26, 27, 28, 29, 30] (by decide +kernel) (by decide +kernel)
set_option maxRecDepth 20000 in
theorem gX4_setLine_X4_fail : GoodIn wsX4_setLine (wsV RX4 47 RX4 yX4_fail wsX4_fail) := goodIn_app (goodIn_of _ (by decide +kernel)) ggX4_setLine_X4_fail
set_option maxRecDepth 20000 in
theorem ggX4_setLine_X4_isCode : GoodIn wsX4_setLine wsX4_isCode := goodIn_r _ [14, 4, 5, 6, 7] (by decide +kernel) (by decide +kernel)
set_option maxRecDepth 20000 in
theorem gX4_setLine_X4_isCode : GoodIn wsX4_setLine (va_wsS RX4 50 yX4_isCode wsX4_isCode) := goodIn_app (goodIn_of _ (by decide +kernel)) ggX4_setLine_X4_isCode
theorem dX4_setLine_0 : decode cX4_setLine 0 = .ok (.aload_n 0, 1) := by decide +kernel
theorem dX4_setLine_1 : decode cX4_setLine 1 = .ok (.iconst 0, 1) := by decide +kernel
theorem dX4_setLine_2 : decode cX4_setLine 2 = .ok (.putfield 29, 3) := by decide +kernel
theorem dX4_setLine_5 : decode cX4_setLine 5 = .ok (.iload_n 1, 1) := by decide +kernel
theorem dX4_setLine_6 : decode cX4_setLine 6 = .ok (.iconst 0, 1) := by decide +kernel
theorem dX4_setLine_7 : decode cX4_setLine 7 = .ok (.bipush 15, 2) := by decide +kernel
theorem dX4_setLine_9 : decode cX4_setLine 9 = .ok (.invokestatic 32, 3) := by decide +kernel
theorem dX4_setLine_12 : decode cX4_setLine 12 = .ok (.ifCond .ne 9, 3) := by decide +kernel
theorem dX4_setLine_15 : decode cX4_setLine 15 = .ok (.aload_n 0, 1) := by decide +kernel
theorem dX4_setLine_16 : decode cX4_setLine 16 = .ok (.iconst 1, 1) := by decide +kernel
theorem dX4_setLine_17 : decode cX4_setLine 17 = .ok (.invokevirtual 47, 3) := by decide +kernel
theorem dX4_setLine_20 : decode cX4_setLine 20 = .ok (.ireturn, 1) := by decide +kernel
theorem dX4_setLine_21 : decode cX4_setLine 21 = .ok (.iload_n 2, 1) := by decide +kernel
theorem dX4_setLine_22 : decode cX4_setLine 22 = .ok (.bipush (-9), 2) := by decide +kernel
theorem dX4_setLine_24 : decode cX4_setLine 24 = .ok (.bipush 9, 2) := by decide +kernel
theorem dX4_setLine_26 : decode cX4_setLine 26 = .ok (.invokestatic 32, 3) := by decide +kernel
theorem dX4_setLine_29 : decode cX4_setLine 29 = .ok (.ifCond .eq 10, 3) := by decide +kernel
theorem dX4_setLine_32 : decode cX4_setLine 32 = .ok (.iload_n 3, 1) := by decide +kernel
theorem dX4_setLine_33 : decode cX4_setLine 33 = .ok (.invokestatic 50, 3) := by decide +kernel
theorem dX4_setLine_36 : decode cX4_setLine 36 = .ok (.ifCond .ne 9, 3) := by decide +kernel
theorem dX4_setLine_39 : decode cX4_setLine 39 = .ok (.aload_n 0, 1) := by decide +kernel
theorem dX4_setLine_40 : decode cX4_setLine 40 = .ok (.iconst 2, 1) := by decide +kernel
theorem dX4_setLine_41 : decode cX4_setLine 41 = .ok (.invokevirtual 47, 3) := by decide +kernel
theorem dX4_setLine_44 : decode cX4_setLine 44 = .ok (.ireturn, 1) := by decide +kernel
theorem dX4_setLine_45 : decode cX4_setLine 45 = .ok (.aload_n 0, 1) := by decide +kernel
theorem dX4_setLine_46 : decode cX4_setLine 46 = .ok (.getfield 20, 3) := by decide +kernel
theorem dX4_setLine_49 : decode cX4_setLine 49 = .ok (.iload_n 1, 1) := by decide +kernel
theorem dX4_setLine_50 : decode cX4_setLine 50 = .ok (.iaload, 1) := by decide +kernel
theorem dX4_setLine_51 : decode cX4_setLine 51 = .ok (.istore 4, 2) := by decide +kernel
theorem dX4_setLine_53 : decode cX4_setLine 53 = .ok (.aload_n 0, 1) := by decide +kernel
theorem dX4_setLine_54 : decode cX4_setLine 54 = .ok (.getfield 20, 3) := by decide +kernel
theorem dX4_setLine_57 : decode cX4_setLine 57 = .ok (.iload_n 1, 1) := by decide +kernel
theorem dX4_setLine_58 : decode cX4_setLine 58 = .ok (.iload_n 2, 1) := by decide +kernel
theorem dX4_setLine_59 : decode cX4_setLine 59 = .ok (.iastore, 1) := by decide +kernel
theorem dX4_setLine_60 : decode cX4_setLine 60 = .ok (.aload_n 0, 1) := by decide +kernel
theorem dX4_setLine_61 : decode cX4_setLine 61 = .ok (.getfield 23, 3) := by decide +kernel
theorem dX4_setLine_64 : decode cX4_setLine 64 = .ok (.iload_n 1, 1) := by decide +kernel
theorem dX4_setLine_65 : decode cX4_setLine 65 = .ok (.iload_n 3, 1) := by decide +kernel
theorem dX4_setLine_66 : decode cX4_setLine 66 = .ok (.iastore, 1) := by decide +kernel
theorem dX4_setLine_67 : decode cX4_setLine 67 = .ok (.iload 4, 2) := by decide +kernel
theorem dX4_setLine_69 : decode cX4_setLine 69 = .ok (.ireturn, 1) := by decide +kernel
set_option maxRecDepth 20000 in
theorem ggX4_setPlay_X4_isIn : GoodIn wsX4_setPlay wsX4_isIn := goodIn_r _ [6] (by decide +kernel) (by decide +kernel)
set_option maxRecDepth 20000 in
theorem gX4_setPlay_X4_isIn : GoodIn wsX4_setPlay (va_wsS RX4 32 yX4_isIn wsX4_isIn) := goodIn_app (goodIn_of _ (by decide +kernel)) ggX4_setPlay_X4_isIn
set_option maxRecDepth 20000 in
theorem ggX4_setPlay_X4_fail : GoodIn wsX4_setPlay wsX4_fail := goodIn_r _ [10, 1, 11, 12, 13, 14, 15, 16, 17, 18, 19, 20, 21, 22, 23, 24, 25, 26] (by decide +kernel) (by decide +kernel)
set_option maxRecDepth 20000 in
theorem gX4_setPlay_X4_fail : GoodIn wsX4_setPlay (wsV RX4 47 RX4 yX4_fail wsX4_fail) := goodIn_app (goodIn_of _ (by decide +kernel)) ggX4_setPlay_X4_fail
theorem dX4_setPlay_0 : decode cX4_setPlay 0 = .ok (.aload_n 0, 1) := by decide +kernel
theorem dX4_setPlay_1 : decode cX4_setPlay 1 = .ok (.iconst 0, 1) := by decide +kernel
theorem dX4_setPlay_2 : decode cX4_setPlay 2 = .ok (.putfield 29, 3) := by decide +kernel
theorem dX4_setPlay_5 : decode cX4_setPlay 5 = .ok (.iload_n 1, 1) := by decide +kernel
theorem dX4_setPlay_6 : decode cX4_setPlay 6 = .ok (.iconst 0, 1) := by decide +kernel
theorem dX4_setPlay_7 : decode cX4_setPlay 7 = .ok (.bipush 9, 2) := by decide +kernel
theorem dX4_setPlay_9 : decode cX4_setPlay 9 = .ok (.invokestatic 32, 3) := by decide +kernel
theorem dX4_setPlay_12 : decode cX4_setPlay 12 = .ok (.ifCond .ne 9, 3) := by decide +kernel
theorem dX4_setPlay_15 : decode cX4_setPlay 15 = .ok (.aload_n 0, 1) := by decide +kernel
theorem dX4_setPlay_16 : decode cX4_setPlay 16 = .ok (.iconst 1, 1) := by decide +kernel
theorem dX4_setPlay_17 : decode cX4_setPlay 17 = .ok (.invokevirtual 47, 3) := by decide +kernel
theorem dX4_setPlay_20 : decode cX4_setPlay 20 = .ok (.ireturn, 1) := by decide +kernel
theorem dX4_setPlay_21 : decode cX4_setPlay 21 = .ok (.aload_n 0, 1) := by decide +kernel
theorem dX4_setPlay_22 : decode cX4_setPlay 22 = .ok (.getfield 64, 3) := by decide +kernel
theorem dX4_setPlay_25 : decode cX4_setPlay 25 = .ok (.istore_n 2, 1) := by decide +kernel
theorem dX4_setPlay_26 : decode cX4_setPlay 26 = .ok (.aload_n 0, 1) := by decide +kernel
theorem dX4_setPlay_27 : decode cX4_setPlay 27 = .ok (.iload_n 1, 1) := by decide +kernel
theorem dX4_setPlay_28 : decode cX4_setPlay 28 = .ok (.putfield 64, 3) := by decide +kernel
theorem dX4_setPlay_31 : decode cX4_setPlay 31 = .ok (.iload_n 2, 1) := by decide +kernel
theorem dX4_setPlay_32 : decode cX4_setPlay 32 = .ok (.ireturn, 1) := by decide +kernel
theorem dX4_setUnshift_0 : decode cX4_setUnshift 0 = .ok (.aload_n 0, 1) := by decide +kernel
theorem dX4_setUnshift_1 : decode cX4_setUnshift 1 = .ok (.iconst 0, 1) := by decide +kernel
theorem dX4_setUnshift_2 : decode cX4_setUnshift 2 = .ok (.putfield 29, 3) := by decide +kernel
theorem dX4_setUnshift_5 : decode cX4_setUnshift 5 = .ok (.aload_n 0, 1) := by decide +kernel
theorem dX4_setUnshift_6 : decode cX4_setUnshift 6 = .ok (.getfield 67, 3) := by decide +kernel
theorem dX4_setUnshift_9 : decode cX4_setUnshift 9 = .ok (.istore_n 2, 1) := by decide +kernel
theorem dX4_setUnshift_10 : decode cX4_setUnshift 10 = .ok (.aload_n 0, 1) := by decide +kernel
theorem dX4_setUnshift_11 : decode cX4_setUnshift 11 = .ok (.iload_n 1, 1) := by decide +kernel
theorem dX4_setUnshift_12 : decode cX4_setUnshift 12 = .ok (.putfield 67, 3) := by decide +kernel
theorem dX4_setUnshift_15 : decode cX4_setUnshift 15 = .ok (.iload_n 2, 1) := by decide +kernel
theorem dX4_setUnshift_16 : decode cX4_setUnshift 16 = .ok (.ireturn, 1) := by decide +kernel
theorem dX4_shift_0 : decode cX4_shift 0 = .ok (.iload_n 2, 1) := by decide +kernel
theorem dX4_shift_1 : decode cX4_shift 1 = .ok (.bipush 27, 2) := by decide +kernel
theorem dX4_shift_3 : decode cX4_shift 3 = .ok (.if_icmp .ne 5, 3) := by decide +kernel
theorem dX4_shift_6 : decode cX4_shift 6 = .ok (.iconst 1, 1) := by decide +kernel
theorem dX4_shift_7 : decode cX4_shift 7 = .ok (.ireturn, 1) := by decide +kernel
theorem dX4_shift_8 : decode cX4_shift 8 = .ok (.iload_n 1, 1) := by decide +kernel
theorem dX4_shift_9 : decode cX4_shift 9 = .ok (.ifCond .eq 30, 3) := by decide +kernel
theorem dX4_shift_12 : decode cX4_shift 12 = .ok (.iload_n 2, 1) := by decide +kernel
theorem dX4_shift_13 : decode cX4_shift 13 = .ok (.bipush 31, 2) := by decide +kernel
theorem dX4_shift_15 : decode cX4_shift 15 = .ok (.if_icmp .eq 24, 3) := by decide +kernel
theorem dX4_shift_18 : decode cX4_shift 18 = .ok (.iload_n 2, 1) := by decide +kernel
theorem dX4_shift_19 : decode cX4_shift 19 = .ok (.iconst 2, 1) := by decide +kernel
theorem dX4_shift_20 : decode cX4_shift 20 = .ok (.if_icmp .eq 19, 3) := by decide +kernel
theorem dX4_shift_23 : decode cX4_shift 23 = .ok (.iload_n 2, 1) := by decide +kernel
theorem dX4_shift_24 : decode cX4_shift 24 = .ok (.iconst 4, 1) := by decide +kernel
theorem dX4_shift_25 : decode cX4_shift 25 = .ok (.if_icmp .ne 10, 3) := by decide +kernel
theorem dX4_shift_28 : decode cX4_shift 28 = .ok (.aload_n 0, 1) := by decide +kernel
theorem dX4_shift_29 : decode cX4_shift 29 = .ok (.getfield 67, 3) := by decide +kernel
theorem dX4_shift_32 : decode cX4_shift 32 = .ok (.ifCond .ne 7, 3) := by decide +kernel
theorem dX4_shift_35 : decode cX4_shift 35 = .ok (.iconst 1, 1) := by decide +kernel
theorem dX4_shift_36 : decode cX4_shift 36 = .ok (.goto 4, 3) := by decide +kernel
theorem dX4_shift_39 : decode cX4_shift 39 = .ok (.iconst 0, 1) := by decide +kernel
theorem dX4_shift_40 : decode cX4_shift 40 = .ok (.ireturn, 1) := by decide +kernel
theorem dX4_set_0 : decode cX4_set 0 = .ok (.aload_n 0, 1) := by decide +kernel
theorem dX4_set_1 : decode cX4_set 1 = .ok (.getfield 13, 3) := by decide +kernel
theorem dX4_set_4 : decode cX4_set 4 = .ok (.aload_n 0, 1) := by decide +kernel
theorem dX4_set_5 : decode cX4_set 5 = .ok (.getfield 7, 3) := by decide +kernel
theorem dX4_set_8 : decode cX4_set 8 = .ok (.iconst 1, 1) := by decide +kernel
theorem dX4_set_9 : decode cX4_set 9 = .ok (.isub, 1) := by decide +kernel
theorem dX4_set_10 : decode cX4_set 10 = .ok (.iaload, 1) := by decide +kernel
theorem dX4_set_11 : decode cX4_set 11 = .ok (.bipush 40, 2) := by decide +kernel
theorem dX4_set_13 : decode cX4_set 13 = .ok (.if_icmp .ne 14, 3) := by decide +kernel
theorem dX4_set_16 : decode cX4_set 16 = .ok (.aload_n 0, 1) := by decide +kernel
theorem dX4_set_17 : decode cX4_set 17 = .ok (.dup, 1) := by decide +kernel
theorem dX4_set_18 : decode cX4_set 18 = .ok (.getfield 70, 3) := by decide +kernel
theorem dX4_set_21 : decode cX4_set 21 = .ok (.iconst 1, 1) := by decide +kernel
theorem dX4_set_22 : decode cX4_set 22 = .ok (.iadd, 1) := by decide +kernel
theorem dX4_set_23 : decode cX4_set 23 = .ok (.putfield 70, 3) := by decide +kernel
theorem dX4_set_26 : decode cX4_set 26 = .ok (.return_, 1) := by decide +kernel
theorem dX4_set_27 : decode cX4_set 27 = .ok (.aload_n 0, 1) := by decide +kernel
theorem dX4_set_28 : decode cX4_set 28 = .ok (.getfield 17, 3) := by decide +kernel
theorem dX4_set_31 : decode cX4_set 31 = .ok (.bipush 40, 2) := by decide +kernel
theorem dX4_set_33 : decode cX4_set 33 = .ok (.aload_n 0, 1) := by decide +kernel
theorem dX4_set_34 : decode cX4_set 34 = .ok (.getfield 7, 3) := by decide +kernel
theorem dX4_set_37 : decode cX4_set 37 = .ok (.iconst 1, 1) := by decide +kernel
theorem dX4_set_38 : decode cX4_set 38 = .ok (.isub, 1) := by decide +kernel
theorem dX4_set_39 : decode cX4_set 39 = .ok (.imul, 1) := by decide +kernel
theorem dX4_set_40 : decode cX4_set 40 = .ok (.aload_n 0, 1) := by decide +kernel
theorem dX4_set_41 : decode cX4_set 41 = .ok (.getfield 13, 3) := by decide +kernel
theorem dX4_set_44 : decode cX4_set 44 = .ok (.aload_n 0, 1) := by decide +kernel
theorem dX4_set_45 : decode cX4_set 45 = .ok (.getfield 7, 3) := by decide +kernel
theorem dX4_set_48 : decode cX4_set 48 = .ok (.iconst 1, 1) := by decide +kernel
theorem dX4_set_49 : decode cX4_set 49 = .ok (.isub, 1) := by decide +kernel
theorem dX4_set_50 : decode cX4_set 50 = .ok (.iaload, 1) := by decide +kernel
theorem dX4_set_51 : decode cX4_set 51 = .ok (.iadd, 1) := by decide +kernel
theorem dX4_set_52 : decode cX4_set 52 = .ok (.iload_n 1, 1) := by decide +kernel
theorem dX4_set_53 : decode cX4_set 53 = .ok (.iastore, 1) := by decide +kernel
theorem dX4_set_54 : decode cX4_set 54 = .ok (.aload_n 0, 1) := by decide +kernel
theorem dX4_set_55 : decode cX4_set 55 = .ok (.getfield 13, 3) := by decide +kernel
theorem dX4_set_58 : decode cX4_set 58 = .ok (.aload_n 0, 1) := by decide +kernel
theorem dX4_set_59 : decode cX4_set 59 = .ok (.getfield 7, 3) := by decide +kernel
theorem dX4_set_62 : decode cX4_set 62 = .ok (.iconst 1, 1) := by decide +kernel
theorem dX4_set_63 : decode cX4_set 63 = .ok (.isub, 1) := by decide +kernel
theorem dX4_set_64 : decode cX4_set 64 = .ok (.dup2, 1) := by decide +kernel
theorem dX4_set_65 : decode cX4_set 65 = .ok (.iaload, 1) := by decide +kernel
theorem dX4_set_66 : decode cX4_set 66 = .ok (.iconst 1, 1) := by decide +kernel
theorem dX4_set_67 : decode cX4_set 67 = .ok (.iadd, 1) := by decide +kernel
theorem dX4_set_68 : decode cX4_set 68 = .ok (.iastore, 1) := by decide +kernel
theorem dX4_set_69 : decode cX4_set 69 = .ok (.return_, 1) := by decide +kernel
theorem dX4_feed_0 : decode cX4_feed 0 = .ok (.aload_n 0, 1) := by decide +kernel
theorem dX4_feed_1 : decode cX4_feed 1 = .ok (.getfield 7, 3) := by decide +kernel
theorem dX4_feed_4 : decode cX4_feed 4 = .ok (.bipush 20, 2) := by decide +kernel
theorem dX4_feed_6 : decode cX4_feed 6 = .ok (.if_icmp .ne 45, 3) := by decide +kernel
theorem dX4_feed_9 : decode cX4_feed 9 = .ok (.aload_n 0, 1) := by decide +kernel
theorem dX4_feed_10 : decode cX4_feed 10 = .ok (.getfield 17, 3) := by decide +kernel
theorem dX4_feed_13 : decode cX4_feed 13 = .ok (.bipush 40, 2) := by decide +kernel
theorem dX4_feed_15 : decode cX4_feed 15 = .ok (.aload_n 0, 1) := by decide +kernel
theorem dX4_feed_16 : decode cX4_feed 16 = .ok (.getfield 17, 3) := by decide +kernel
theorem dX4_feed_19 : decode cX4_feed 19 = .ok (.iconst 0, 1) := by decide +kernel
theorem dX4_feed_20 : decode cX4_feed 20 = .ok (.sipush 760, 3) := by decide +kernel
theorem dX4_feed_23 : decode cX4_feed 23 = .ok (.invokestatic 73, 3) := by decide +kernel
theorem dX4_feed_26 : decode cX4_feed 26 = .ok (.aload_n 0, 1) := by decide +kernel
theorem dX4_feed_27 : decode cX4_feed 27 = .ok (.getfield 13, 3) := by decide +kernel
theorem dX4_feed_30 : decode cX4_feed 30 = .ok (.iconst 1, 1) := by decide +kernel
theorem dX4_feed_31 : decode cX4_feed 31 = .ok (.aload_n 0, 1) := by decide +kernel
theorem dX4_feed_32 : decode cX4_feed 32 = .ok (.getfield 13, 3) := by decide +kernel
theorem dX4_feed_35 : decode cX4_feed 35 = .ok (.iconst 0, 1) := by decide +kernel
theorem dX4_feed_36 : decode cX4_feed 36 = .ok (.bipush 19, 2) := by decide +kernel
theorem dX4_feed_38 : decode cX4_feed 38 = .ok (.invokestatic 73, 3) := by decide +kernel
theorem dX4_feed_41 : decode cX4_feed 41 = .ok (.aload_n 0, 1) := by decide +kernel
theorem dX4_feed_42 : decode cX4_feed 42 = .ok (.dup, 1) := by decide +kernel
theorem dX4_feed_43 : decode cX4_feed 43 = .ok (.getfield 7, 3) := by decide +kernel
theorem dX4_feed_46 : decode cX4_feed 46 = .ok (.iconst 1, 1) := by decide +kernel
theorem dX4_feed_47 : decode cX4_feed 47 = .ok (.isub, 1) := by decide +kernel
theorem dX4_feed_48 : decode cX4_feed 48 = .ok (.putfield 7, 3) := by decide +kernel
theorem dX4_feed_51 : decode cX4_feed 51 = .ok (.aload_n 0, 1) := by decide +kernel
theorem dX4_feed_52 : decode cX4_feed 52 = .ok (.getfield 13, 3) := by decide +kernel
theorem dX4_feed_55 : decode cX4_feed 55 = .ok (.aload_n 0, 1) := by decide +kernel
theorem dX4_feed_56 : decode cX4_feed 56 = .ok (.getfield 7, 3) := by decide +kernel
theorem dX4_feed_59 : decode cX4_feed 59 = .ok (.iconst 0, 1) := by decide +kernel
theorem dX4_feed_60 : decode cX4_feed 60 = .ok (.iastore, 1) := by decide +kernel
theorem dX4_feed_61 : decode cX4_feed 61 = .ok (.aload_n 0, 1) := by decide +kernel
theorem dX4_feed_62 : decode cX4_feed 62 = .ok (.dup, 1) := by decide +kernel
theorem dX4_feed_63 : decode cX4_feed 63 = .ok (.getfield 7, 3) := by decide +kernel
theorem dX4_feed_66 : decode cX4_feed 66 = .ok (.iconst 1, 1) := by decide +kernel
theorem dX4_feed_67 : decode cX4_feed 67 = .ok (.iadd, 1) := by decide +kernel
theorem dX4_feed_68 : decode cX4_feed 68 = .ok (.putfield 7, 3) := by decide +kernel
theorem dX4_feed_71 : decode cX4_feed 71 = .ok (.return_, 1) := by decide +kernel
set_option maxRecDepth 20000 in
theorem ggX4_print_X4_feed : GoodIn wsX4_print wsX4_feed := goodIn_r _ [7, 8, 9, 10, 11, 12, 13, 14, 31, 32, 33, 34, 35, 36, 37, 38, 39, 40, 41, 42, 43, 44, 45, 46] (by decide +kernel) (by decide +kernel)
set_option maxRecDepth 20000 in
theorem gX4_print_X4_feed : GoodIn wsX4_print (wsV RX4 79 RX4 yX4_feed wsX4_feed) := goodIn_app (goodIn_of _ (by decide +kernel)) ggX4_print_X4_feed
set_option maxRecDepth 20000 in
theorem ggX4_print_X4_characterOf : GoodIn wsX4_print wsX4_characterOf := goodIn_r _ [17, 18, 19, 6, 20] (by decide +kernel) (by decide +kernel)
set_option maxRecDepth 20000 in
theorem gX4_print_X4_characterOf : GoodIn wsX4_print (va_wsS RX4 53 yX4_characterOf wsX4_characterOf) := goodIn_app (goodIn_of _ (by decide +kernel)) ggX4_print_X4_characterOf
set_option maxRecDepth 20000 in
theorem ggX4_print_X4_set : GoodIn wsX4_print wsX4_set := goodIn_r _ [24, 14, 8, 25, 9, 31, 32, 33, 34, 35, 36, 37, 38, 39, 40, 41, 42, 43, 44, 45, 46] (by decide +kernel) (by decide +kernel)
set_option maxRecDepth 20000 in
theorem gX4_print_X4_set : GoodIn wsX4_print (wsV RX4 85 RX4 yX4_set wsX4_set) := goodIn_app (goodIn_of _ (by decide +kernel)) ggX4_print_X4_set
set_option maxRecDepth 20000 in
theorem ggX4_print_X4_shift : GoodIn wsX4_print wsX4_shift := goodIn_r _ [29, 30, 31, 32, 33, 34, 35, 36, 37, 38, 39, 40, 41, 42, 43, 44, 45, 46] (by decide +kernel) (by decide +kernel)
set_option maxRecDepth 20000 in
theorem gX4_print_X4_shift : GoodIn wsX4_print (wsV RX4 89 RX4 yX4_shift wsX4_shift) := goodIn_app (goodIn_of _ (by decide +kernel)) ggX4_print_X4_shift
theorem dX4_print_0 : decode cX4_print 0 = .ok (.iload_n 1, 1) := by decide +kernel
theorem dX4_print_1 : decode cX4_print 1 = .ok (.iconst 2, 1) := by decide +kernel
theorem dX4_print_2 : decode cX4_print 2 = .ok (.if_icmp .ne 10, 3) := by decide +kernel
theorem dX4_print_5 : decode cX4_print 5 = .ok (.aload_n 0, 1) := by decide +kernel
theorem dX4_print_6 : decode cX4_print 6 = .ok (.invokevirtual 79, 3) := by decide +kernel
theorem dX4_print_9 : decode cX4_print 9 = .ok (.goto 45, 3) := by decide +kernel
theorem dX4_print_12 : decode cX4_print 12 = .ok (.iload_n 1, 1) := by decide +kernel
theorem dX4_print_13 : decode cX4_print 13 = .ok (.bipush 8, 2) := by decide +kernel
theorem dX4_print_15 : decode cX4_print 15 = .ok (.if_icmp .ne 16, 3) := by decide +kernel
theorem dX4_print_18 : decode cX4_print 18 = .ok (.aload_n 0, 1) := by decide +kernel
theorem dX4_print_19 : decode cX4_print 19 = .ok (.dup, 1) := by decide +kernel
theorem dX4_print_20 : decode cX4_print 20 = .ok (.getfield 82, 3) := by decide +kernel
theorem dX4_print_23 : decode cX4_print 23 = .ok (.iconst 1, 1) := by decide +kernel
theorem dX4_print_24 : decode cX4_print 24 = .ok (.iadd, 1) := by decide +kernel
theorem dX4_print_25 : decode cX4_print 25 = .ok (.putfield 82, 3) := by decide +kernel
theorem dX4_print_28 : decode cX4_print 28 = .ok (.goto 26, 3) := by decide +kernel
theorem dX4_print_31 : decode cX4_print 31 = .ok (.iload_n 1, 1) := by decide +kernel
theorem dX4_print_32 : decode cX4_print 32 = .ok (.aload_n 0, 1) := by decide +kernel
theorem dX4_print_33 : decode cX4_print 33 = .ok (.getfield 60, 3) := by decide +kernel
theorem dX4_print_36 : decode cX4_print 36 = .ok (.invokestatic 53, 3) := by decide +kernel
theorem dX4_print_39 : decode cX4_print 39 = .ok (.ifCond .eq 15, 3) := by decide +kernel
theorem dX4_print_42 : decode cX4_print 42 = .ok (.aload_n 0, 1) := by decide +kernel
theorem dX4_print_43 : decode cX4_print 43 = .ok (.iload_n 1, 1) := by decide +kernel
theorem dX4_print_44 : decode cX4_print 44 = .ok (.aload_n 0, 1) := by decide +kernel
theorem dX4_print_45 : decode cX4_print 45 = .ok (.getfield 60, 3) := by decide +kernel
theorem dX4_print_48 : decode cX4_print 48 = .ok (.invokestatic 53, 3) := by decide +kernel
theorem dX4_print_51 : decode cX4_print 51 = .ok (.invokevirtual 85, 3) := by decide +kernel
theorem dX4_print_54 : decode cX4_print 54 = .ok (.aload_n 0, 1) := by decide +kernel
theorem dX4_print_55 : decode cX4_print 55 = .ok (.aload_n 0, 1) := by decide +kernel
theorem dX4_print_56 : decode cX4_print 56 = .ok (.aload_n 0, 1) := by decide +kernel
theorem dX4_print_57 : decode cX4_print 57 = .ok (.getfield 60, 3) := by decide +kernel
theorem dX4_print_60 : decode cX4_print 60 = .ok (.iload_n 1, 1) := by decide +kernel
theorem dX4_print_61 : decode cX4_print 61 = .ok (.invokevirtual 89, 3) := by decide +kernel
theorem dX4_print_64 : decode cX4_print 64 = .ok (.putfield 60, 3) := by decide +kernel
theorem dX4_print_67 : decode cX4_print 67 = .ok (.return_, 1) := by decide +kernel
theorem dX4_read_0 : decode cX4_read 0 = .ok (.iload_n 1, 1) := by decide +kernel
theorem dX4_read_1 : decode cX4_read 1 = .ok (.aload_n 0, 1) := by decide +kernel
theorem dX4_read_2 : decode cX4_read 2 = .ok (.getfield 23, 3) := by decide +kernel
theorem dX4_read_5 : decode cX4_read 5 = .ok (.iload_n 2, 1) := by decide +kernel
theorem dX4_read_6 : decode cX4_read 6 = .ok (.bipush 16, 2) := by decide +kernel
theorem dX4_read_8 : decode cX4_read 8 = .ok (.irem, 1) := by decide +kernel
theorem dX4_read_9 : decode cX4_read 9 = .ok (.iaload, 1) := by decide +kernel
theorem dX4_read_10 : decode cX4_read 10 = .ok (.ixor, 1) := by decide +kernel
theorem dX4_read_11 : decode cX4_read 11 = .ok (.istore_n 3, 1) := by decide +kernel
theorem dX4_read_12 : decode cX4_read 12 = .ok (.aload_n 0, 1) := by decide +kernel
theorem dX4_read_13 : decode cX4_read 13 = .ok (.getfield 20, 3) := by decide +kernel
theorem dX4_read_16 : decode cX4_read 16 = .ok (.iload_n 2, 1) := by decide +kernel
theorem dX4_read_17 : decode cX4_read 17 = .ok (.bipush 16, 2) := by decide +kernel
theorem dX4_read_19 : decode cX4_read 19 = .ok (.irem, 1) := by decide +kernel
theorem dX4_read_20 : decode cX4_read 20 = .ok (.iaload, 1) := by decide +kernel
theorem dX4_read_21 : decode cX4_read 21 = .ok (.istore 4, 2) := by decide +kernel
theorem dX4_read_23 : decode cX4_read 23 = .ok (.iload 4, 2) := by decide +kernel
theorem dX4_read_25 : decode cX4_read 25 = .ok (.aload_n 0, 1) := by decide +kernel
theorem dX4_read_26 : decode cX4_read 26 = .ok (.getfield 64, 3) := by decide +kernel
theorem dX4_read_29 : decode cX4_read 29 = .ok (.if_icmp .le 9, 3) := by decide +kernel
theorem dX4_read_32 : decode cX4_read 32 = .ok (.iload_n 3, 1) := by decide +kernel
theorem dX4_read_33 : decode cX4_read 33 = .ok (.iconst 1, 1) := by decide +kernel
theorem dX4_read_34 : decode cX4_read 34 = .ok (.ishr, 1) := by decide +kernel
theorem dX4_read_35 : decode cX4_read 35 = .ok (.goto 25, 3) := by decide +kernel
theorem dX4_read_38 : decode cX4_read 38 = .ok (.iload 4, 2) := by decide +kernel
theorem dX4_read_40 : decode cX4_read 40 = .ok (.aload_n 0, 1) := by decide +kernel
theorem dX4_read_41 : decode cX4_read 41 = .ok (.getfield 64, 3) := by decide +kernel
theorem dX4_read_44 : decode cX4_read 44 = .ok (.ineg, 1) := by decide +kernel
theorem dX4_read_45 : decode cX4_read 45 = .ok (.if_icmp .ge 14, 3) := by decide +kernel
theorem dX4_read_48 : decode cX4_read 48 = .ok (.iload_n 3, 1) := by decide +kernel
theorem dX4_read_49 : decode cX4_read 49 = .ok (.iconst 1, 1) := by decide +kernel
theorem dX4_read_50 : decode cX4_read 50 = .ok (.ishl, 1) := by decide +kernel
theorem dX4_read_51 : decode cX4_read 51 = .ok (.iconst 1, 1) := by decide +kernel
theorem dX4_read_52 : decode cX4_read 52 = .ok (.ior, 1) := by decide +kernel
theorem dX4_read_53 : decode cX4_read 53 = .ok (.bipush 31, 2) := by decide +kernel
theorem dX4_read_55 : decode cX4_read 55 = .ok (.iand, 1) := by decide +kernel
theorem dX4_read_56 : decode cX4_read 56 = .ok (.goto 4, 3) := by decide +kernel
theorem dX4_read_59 : decode cX4_read 59 = .ok (.iload_n 3, 1) := by decide +kernel
theorem dX4_read_60 : decode cX4_read 60 = .ok (.ireturn, 1) := by decide +kernel
set_option maxRecDepth 20000 in
theorem ggX4_come_X4_read : GoodIn wsX4_come wsX4_read := goodIn_r _ [7, 8, 9, 10, 44, 45, 46, 47, 48, 49, 50, 51, 52, 53, 54, 55, 56, 57, 58, 59] (by decide +kernel) (by decide +kernel)
set_option maxRecDepth 20000 in
theorem gX4_come_X4_read : GoodIn wsX4_come (wsV RX4 96 RX4 yX4_read wsX4_read) := goodIn_app (goodIn_of _ (by decide +kernel)) ggX4_come_X4_read
set_option maxRecDepth 20000 in
theorem ggX4_come_X4_print : GoodIn wsX4_come wsX4_print := goodIn_r _ [14, 15, 16, 17, 18, 19, 6, 20, 21, 22, 23, 24, 25, 26, 27, 28, 29, 30, 31, 32, 33, 34, 35, 36, 37, 38, 39, 40, 41, 42, 43, 44, 45, 46, 47, 48, 49, 50, 51, 52, 53, 54, 55, 56, 57, 58, 59] (by decide +kernel) (by decide +kernel)
set_option maxRecDepth 20000 in
theorem gX4_come_X4_print : GoodIn wsX4_come (wsV RX4 103 RX4 yX4_print wsX4_print) := goodIn_app (goodIn_of _ (by decide +kernel)) ggX4_come_X4_print
theorem dX4_come_0 : decode cX4_come 0 = .ok (.aload_n 0, 1) := by decide +kernel
theorem dX4_come_1 : decode cX4_come 1 = .ok (.iload_n 1, 1) := by decide +kernel
theorem dX4_come_2 : decode cX4_come 2 = .ok (.aload_n 0, 1) := by decide +kernel
theorem dX4_come_3 : decode cX4_come 3 = .ok (.getfield 93, 3) := by decide +kernel
theorem dX4_come_6 : decode cX4_come 6 = .ok (.invokevirtual 96, 3) := by decide +kernel
theorem dX4_come_9 : decode cX4_come 9 = .ok (.istore_n 2, 1) := by decide +kernel
theorem dX4_come_10 : decode cX4_come 10 = .ok (.aload_n 0, 1) := by decide +kernel
theorem dX4_come_11 : decode cX4_come 11 = .ok (.dup, 1) := by decide +kernel
theorem dX4_come_12 : decode cX4_come 12 = .ok (.getfield 93, 3) := by decide +kernel
theorem dX4_come_15 : decode cX4_come 15 = .ok (.iconst 1, 1) := by decide +kernel
theorem dX4_come_16 : decode cX4_come 16 = .ok (.iadd, 1) := by decide +kernel
theorem dX4_come_17 : decode cX4_come 17 = .ok (.putfield 93, 3) := by decide +kernel
theorem dX4_come_20 : decode cX4_come 20 = .ok (.aload_n 0, 1) := by decide +kernel
theorem dX4_come_21 : decode cX4_come 21 = .ok (.dup, 1) := by decide +kernel
theorem dX4_come_22 : decode cX4_come 22 = .ok (.getfield 100, 3) := by decide +kernel
theorem dX4_come_25 : decode cX4_come 25 = .ok (.iload_n 2, 1) := by decide +kernel
theorem dX4_come_26 : decode cX4_come 26 = .ok (.iload_n 1, 1) := by decide +kernel
theorem dX4_come_27 : decode cX4_come 27 = .ok (.if_icmp .ne 7, 3) := by decide +kernel
theorem dX4_come_30 : decode cX4_come 30 = .ok (.iconst 0, 1) := by decide +kernel
theorem dX4_come_31 : decode cX4_come 31 = .ok (.goto 4, 3) := by decide +kernel
theorem dX4_come_34 : decode cX4_come 34 = .ok (.iconst 1, 1) := by decide +kernel
theorem dX4_come_35 : decode cX4_come 35 = .ok (.iadd, 1) := by decide +kernel
theorem dX4_come_36 : decode cX4_come 36 = .ok (.putfield 100, 3) := by decide +kernel
theorem dX4_come_39 : decode cX4_come 39 = .ok (.aload_n 0, 1) := by decide +kernel
theorem dX4_come_40 : decode cX4_come 40 = .ok (.iload_n 2, 1) := by decide +kernel
theorem dX4_come_41 : decode cX4_come 41 = .ok (.invokevirtual 103, 3) := by decide +kernel
theorem dX4_come_44 : decode cX4_come 44 = .ok (.iload_n 2, 1) := by decide +kernel
theorem dX4_come_45 : decode cX4_come 45 = .ok (.ireturn, 1) := by decide +kernel
set_option maxRecDepth 20000 in
theorem ggX4_receive_X4_isCode : GoodIn wsX4_receive wsX4_isCode := goodIn_r _ [5, 6, 7, 4, 8] (by decide +kernel) (by decide +kernel)
set_option maxRecDepth 20000 in
theorem gX4_receive_X4_isCode : GoodIn wsX4_receive (va_wsS RX4 50 yX4_isCode wsX4_isCode) := goodIn_app (goodIn_of _ (by decide +kernel)) ggX4_receive_X4_isCode
set_option maxRecDepth 20000 in
theorem ggX4_receive_X4_come : GoodIn wsX4_receive wsX4_come := goodIn_r _ [12, 13, 14, 15, 16, 17, 4, 18, 19, 20, 21, 22, 23, 24, 25, 26, 27, 28, 29, 30, 31, 32, 33, 34, 35, 36, 37, 38, 39, 40, 41, 42, 43, 44, 45, 46, 47, 48, 49, 50, 51, 52, 53, 54, 59, 60, 61, 62, 63, 64, 65, 66, 67, 68, 69, 70, 71, 72, 73, 74] (by decide +kernel) (by decide +kernel)
set_option maxRecDepth 20000 in
theorem gX4_receive_X4_come : GoodIn wsX4_receive (wsV RX4 106 RX4 yX4_come wsX4_come) := goodIn_app (goodIn_of _ (by decide +kernel)) ggX4_receive_X4_come
set_option maxRecDepth 20000 in
theorem ggX4_receive_X4_fail : GoodIn wsX4_receive wsX4_fail := goodIn_r _ [58, 1, 59, 60, 61, 62, 63, 64, 65, 66, 67, 68, 69, 70, 71, 72, 73, 74] (by decide +kernel) (by decide +kernel)
set_option maxRecDepth 20000 in
theorem gX4_receive_X4_fail : GoodIn wsX4_receive (wsV RX4 47 RX4 yX4_fail wsX4_fail) := goodIn_app (goodIn_of _ (by decide +kernel)) ggX4_receive_X4_fail
theorem dX4_receive_0 : decode cX4_receive 0 = .ok (.aload_n 0, 1) := by decide +kernel
theorem dX4_receive_1 : decode cX4_receive 1 = .ok (.iconst 0, 1) := by decide +kernel
theorem dX4_receive_2 : decode cX4_receive 2 = .ok (.putfield 29, 3) := by decide +kernel
theorem dX4_receive_5 : decode cX4_receive 5 = .ok (.iload_n 1, 1) := by decide +kernel
theorem dX4_receive_6 : decode cX4_receive 6 = .ok (.invokestatic 50, 3) := by decide +kernel
theorem dX4_receive_9 : decode cX4_receive 9 = .ok (.ifCond .eq 11, 3) := by decide +kernel
theorem dX4_receive_12 : decode cX4_receive 12 = .ok (.aload_n 0, 1) := by decide +kernel
theorem dX4_receive_13 : decode cX4_receive 13 = .ok (.iload_n 1, 1) := by decide +kernel
theorem dX4_receive_14 : decode cX4_receive 14 = .ok (.invokevirtual 106, 3) := by decide +kernel
theorem dX4_receive_17 : decode cX4_receive 17 = .ok (.goto 8, 3) := by decide +kernel
theorem dX4_receive_20 : decode cX4_receive 20 = .ok (.aload_n 0, 1) := by decide +kernel
theorem dX4_receive_21 : decode cX4_receive 21 = .ok (.iconst 1, 1) := by decide +kernel
theorem dX4_receive_22 : decode cX4_receive 22 = .ok (.invokevirtual 47, 3) := by decide +kernel
theorem dX4_receive_25 : decode cX4_receive 25 = .ok (.ireturn, 1) := by decide +kernel
theorem dX4_put_0 : decode cX4_put 0 = .ok (.aload_n 0, 1) := by decide +kernel
theorem dX4_put_1 : decode cX4_put 1 = .ok (.getfield 26, 3) := by decide +kernel
theorem dX4_put_4 : decode cX4_put 4 = .ok (.aload_n 0, 1) := by decide +kernel
theorem dX4_put_5 : decode cX4_put 5 = .ok (.getfield 109, 3) := by decide +kernel
theorem dX4_put_8 : decode cX4_put 8 = .ok (.iload_n 1, 1) := by decide +kernel
theorem dX4_put_9 : decode cX4_put 9 = .ok (.iastore, 1) := by decide +kernel
theorem dX4_put_10 : decode cX4_put 10 = .ok (.aload_n 0, 1) := by decide +kernel
theorem dX4_put_11 : decode cX4_put 11 = .ok (.dup, 1) := by decide +kernel
theorem dX4_put_12 : decode cX4_put 12 = .ok (.getfield 109, 3) := by decide +kernel
theorem dX4_put_15 : decode cX4_put 15 = .ok (.iconst 1, 1) := by decide +kernel
theorem dX4_put_16 : decode cX4_put 16 = .ok (.iadd, 1) := by decide +kernel
theorem dX4_put_17 : decode cX4_put 17 = .ok (.putfield 109, 3) := by decide +kernel
theorem dX4_put_20 : decode cX4_put 20 = .ok (.return_, 1) := by decide +kernel
set_option maxRecDepth 20000 in
theorem ggX4_punch_X4_isCode : GoodIn wsX4_punch wsX4_isCode := goodIn_r _ [6, 7, 8, 5, 9] (by decide +kernel) (by decide +kernel)
set_option maxRecDepth 20000 in
theorem gX4_punch_X4_isCode : GoodIn wsX4_punch (va_wsS RX4 50 yX4_isCode wsX4_isCode) := goodIn_app (goodIn_of _ (by decide +kernel)) ggX4_punch_X4_isCode
set_option maxRecDepth 20000 in
theorem ggX4_punch_X4_fail : GoodIn wsX4_punch wsX4_fail := goodIn_r _ [13, 1, 19, 20, 21, 22, 23, 24, 25, 26, 27, 28, 29, 30, 31, 32, 33, 34] (by decide +kernel) (by decide +kernel)
set_option maxRecDepth 20000 in
theorem gX4_punch_X4_fail : GoodIn wsX4_punch (wsV RX4 47 RX4 yX4_fail wsX4_fail) := goodIn_app (goodIn_of _ (by decide +kernel)) ggX4_punch_X4_fail
set_option maxRecDepth 20000 in
theorem ggX4_punch_X4_put : GoodIn wsX4_punch wsX4_put := goodIn_r _ [17, 18, 2, 19, 20, 21, 22, 23, 24, 25, 26, 27, 28, 29, 30, 31, 32, 33, 34] (by decide +kernel) (by decide +kernel)
set_option maxRecDepth 20000 in
theorem gX4_punch_X4_put : GoodIn wsX4_punch (wsV RX4 112 RX4 yX4_put wsX4_put) := goodIn_app (goodIn_of _ (by decide +kernel)) ggX4_punch_X4_put
theorem dX4_punch_0 : decode cX4_punch 0 = .ok (.aload_n 0, 1) := by decide +kernel
theorem dX4_punch_1 : decode cX4_punch 1 = .ok (.iconst 0, 1) := by decide +kernel
theorem dX4_punch_2 : decode cX4_punch 2 = .ok (.putfield 29, 3) := by decide +kernel
theorem dX4_punch_5 : decode cX4_punch 5 = .ok (.iload_n 1, 1) := by decide +kernel
theorem dX4_punch_6 : decode cX4_punch 6 = .ok (.invokestatic 50, 3) := by decide +kernel
theorem dX4_punch_9 : decode cX4_punch 9 = .ok (.ifCond .ne 9, 3) := by decide +kernel
theorem dX4_punch_12 : decode cX4_punch 12 = .ok (.aload_n 0, 1) := by decide +kernel
theorem dX4_punch_13 : decode cX4_punch 13 = .ok (.iconst 1, 1) := by decide +kernel
theorem dX4_punch_14 : decode cX4_punch 14 = .ok (.invokevirtual 47, 3) := by decide +kernel
theorem dX4_punch_17 : decode cX4_punch 17 = .ok (.ireturn, 1) := by decide +kernel
theorem dX4_punch_18 : decode cX4_punch 18 = .ok (.aload_n 0, 1) := by decide +kernel
theorem dX4_punch_19 : decode cX4_punch 19 = .ok (.getfield 109, 3) := by decide +kernel
theorem dX4_punch_22 : decode cX4_punch 22 = .ok (.bipush 120, 2) := by decide +kernel
theorem dX4_punch_24 : decode cX4_punch 24 = .ok (.if_icmp .ne 9, 3) := by decide +kernel
theorem dX4_punch_27 : decode cX4_punch 27 = .ok (.aload_n 0, 1) := by decide +kernel
theorem dX4_punch_28 : decode cX4_punch 28 = .ok (.iconst 2, 1) := by decide +kernel
theorem dX4_punch_29 : decode cX4_punch 29 = .ok (.invokevirtual 47, 3) := by decide +kernel
theorem dX4_punch_32 : decode cX4_punch 32 = .ok (.ireturn, 1) := by decide +kernel
theorem dX4_punch_33 : decode cX4_punch 33 = .ok (.aload_n 0, 1) := by decide +kernel
theorem dX4_punch_34 : decode cX4_punch 34 = .ok (.iload_n 1, 1) := by decide +kernel
theorem dX4_punch_35 : decode cX4_punch 35 = .ok (.invokevirtual 112, 3) := by decide +kernel
theorem dX4_punch_38 : decode cX4_punch 38 = .ok (.aload_n 0, 1) := by decide +kernel
theorem dX4_punch_39 : decode cX4_punch 39 = .ok (.getfield 109, 3) := by decide +kernel
theorem dX4_punch_42 : decode cX4_punch 42 = .ok (.ireturn, 1) := by decide +kernel
set_option maxRecDepth 20000 in
theorem ggX4_shiftAt_X4_shift : GoodIn wsX4_shiftAt wsX4_shift := goodIn_r _ [6, 7, 8, 9, 10, 11, 12, 13, 14, 15, 16, 17, 18, 19, 20, 21, 22, 23] (by decide +kernel) (by decide +kernel)
set_option maxRecDepth 20000 in
theorem gX4_shiftAt_X4_shift : GoodIn wsX4_shiftAt (wsV RX4 89 RX4 yX4_shift wsX4_shift) := goodIn_app (goodIn_of _ (by decide +kernel)) ggX4_shiftAt_X4_shift
theorem dX4_shiftAt_0 : decode cX4_shiftAt 0 = .ok (.iconst 0, 1) := by decide +kernel
theorem dX4_shiftAt_1 : decode cX4_shiftAt 1 = .ok (.istore_n 2, 1) := by decide +kernel
theorem dX4_shiftAt_2 : decode cX4_shiftAt 2 = .ok (.iconst 0, 1) := by decide +kernel
theorem dX4_shiftAt_3 : decode cX4_shiftAt 3 = .ok (.istore_n 3, 1) := by decide +kernel
theorem dX4_shiftAt_4 : decode cX4_shiftAt 4 = .ok (.iload_n 3, 1) := by decide +kernel
theorem dX4_shiftAt_5 : decode cX4_shiftAt 5 = .ok (.iload_n 1, 1) := by decide +kernel
theorem dX4_shiftAt_6 : decode cX4_shiftAt 6 = .ok (.if_icmp .ge 21, 3) := by decide +kernel
theorem dX4_shiftAt_9 : decode cX4_shiftAt 9 = .ok (.aload_n 0, 1) := by decide +kernel
theorem dX4_shiftAt_10 : decode cX4_shiftAt 10 = .ok (.iload_n 2, 1) := by decide +kernel
theorem dX4_shiftAt_11 : decode cX4_shiftAt 11 = .ok (.aload_n 0, 1) := by decide +kernel
theorem dX4_shiftAt_12 : decode cX4_shiftAt 12 = .ok (.getfield 26, 3) := by decide +kernel
theorem dX4_shiftAt_15 : decode cX4_shiftAt 15 = .ok (.iload_n 3, 1) := by decide +kernel
theorem dX4_shiftAt_16 : decode cX4_shiftAt 16 = .ok (.iaload, 1) := by decide +kernel
theorem dX4_shiftAt_17 : decode cX4_shiftAt 17 = .ok (.invokevirtual 89, 3) := by decide +kernel
theorem dX4_shiftAt_20 : decode cX4_shiftAt 20 = .ok (.istore_n 2, 1) := by decide +kernel
theorem dX4_shiftAt_21 : decode cX4_shiftAt 21 = .ok (.iinc 3 1, 3) := by decide +kernel
theorem dX4_shiftAt_24 : decode cX4_shiftAt 24 = .ok (.goto (-20), 3) := by decide +kernel
theorem dX4_shiftAt_27 : decode cX4_shiftAt 27 = .ok (.iload_n 2, 1) := by decide +kernel
theorem dX4_shiftAt_28 : decode cX4_shiftAt 28 = .ok (.ireturn, 1) := by decide +kernel
set_option maxRecDepth 20000 in
theorem ggX4_type_X4_isCharacter : GoodIn wsX4_type wsX4_isCharacter := goodIn_r _ [6, 7, 8, 5, 9] (by decide +kernel) (by decide +kernel)
set_option maxRecDepth 20000 in
theorem gX4_type_X4_isCharacter : GoodIn wsX4_type (va_wsS RX4 40 yX4_isCharacter wsX4_isCharacter) := goodIn_app (goodIn_of _ (by decide +kernel)) ggX4_type_X4_isCharacter
set_option maxRecDepth 20000 in
theorem ggX4_type_X4_fail : GoodIn wsX4_type wsX4_fail := goodIn_r _ [13, 1, 34, 35, 36, 37, 38, 39, 40, 41, 42, 43, 44, 45, 46, 47, 48, 49] (by decide +kernel) (by decide +kernel)
set_option maxRecDepth 20000 in
theorem gX4_type_X4_fail : GoodIn wsX4_type (wsV RX4 47 RX4 yX4_fail wsX4_fail) := goodIn_app (goodIn_of _ (by decide +kernel)) ggX4_type_X4_fail
set_option maxRecDepth 20000 in
theorem ggX4_type_X4_shiftAt : GoodIn wsX4_type wsX4_shiftAt := goodIn_r _ [17, 18, 19, 20, 21, 5, 22, 23, 34, 35, 36, 37, 38, 39, 40, 41, 42, 43, 44, 45, 46, 47, 48, 49] (by decide +kernel) (by decide +kernel)
set_option maxRecDepth 20000 in
theorem gX4_type_X4_shiftAt : GoodIn wsX4_type (wsV RX4 115 RX4 yX4_shiftAt wsX4_shiftAt) := goodIn_app (goodIn_of _ (by decide +kernel)) ggX4_type_X4_shiftAt
set_option maxRecDepth 20000 in
theorem ggX4_type_X4_put : GoodIn wsX4_type wsX4_put := goodIn_r _ [27, 18, 2, 34, 35, 36, 37, 38, 39, 40, 41, 42, 43, 44, 45, 46, 47, 48, 49] (by decide +kernel) (by decide +kernel)
set_option maxRecDepth 20000 in
theorem gX4_type_X4_put : GoodIn wsX4_type (wsV RX4 112 RX4 yX4_put wsX4_put) := goodIn_app (goodIn_of _ (by decide +kernel)) ggX4_type_X4_put
set_option maxRecDepth 20000 in
theorem ggX4_type_X4_codeOf : GoodIn wsX4_type wsX4_codeOf := goodIn_r _ [30, 31, 32, 5, 33] (by decide +kernel) (by decide +kernel)
set_option maxRecDepth 20000 in
theorem gX4_type_X4_codeOf : GoodIn wsX4_type (va_wsS RX4 43 yX4_codeOf wsX4_codeOf) := goodIn_app (goodIn_of _ (by decide +kernel)) ggX4_type_X4_codeOf
theorem dX4_type_0 : decode cX4_type 0 = .ok (.aload_n 0, 1) := by decide +kernel
theorem dX4_type_1 : decode cX4_type 1 = .ok (.iconst 0, 1) := by decide +kernel
theorem dX4_type_2 : decode cX4_type 2 = .ok (.putfield 29, 3) := by decide +kernel
theorem dX4_type_5 : decode cX4_type 5 = .ok (.iload_n 1, 1) := by decide +kernel
theorem dX4_type_6 : decode cX4_type 6 = .ok (.invokestatic 40, 3) := by decide +kernel
theorem dX4_type_9 : decode cX4_type 9 = .ok (.ifCond .ne 9, 3) := by decide +kernel
theorem dX4_type_12 : decode cX4_type 12 = .ok (.aload_n 0, 1) := by decide +kernel
theorem dX4_type_13 : decode cX4_type 13 = .ok (.iconst 1, 1) := by decide +kernel
theorem dX4_type_14 : decode cX4_type 14 = .ok (.invokevirtual 47, 3) := by decide +kernel
theorem dX4_type_17 : decode cX4_type 17 = .ok (.ireturn, 1) := by decide +kernel
theorem dX4_type_18 : decode cX4_type 18 = .ok (.iload_n 1, 1) := by decide +kernel
theorem dX4_type_19 : decode cX4_type 19 = .ok (.bipush 26, 2) := by decide +kernel
theorem dX4_type_21 : decode cX4_type 21 = .ok (.if_icmp .le 7, 3) := by decide +kernel
theorem dX4_type_24 : decode cX4_type 24 = .ok (.iconst 1, 1) := by decide +kernel
theorem dX4_type_25 : decode cX4_type 25 = .ok (.goto 4, 3) := by decide +kernel
theorem dX4_type_28 : decode cX4_type 28 = .ok (.iconst 0, 1) := by decide +kernel
theorem dX4_type_29 : decode cX4_type 29 = .ok (.istore_n 2, 1) := by decide +kernel
theorem dX4_type_30 : decode cX4_type 30 = .ok (.iload_n 1, 1) := by decide +kernel
theorem dX4_type_31 : decode cX4_type 31 = .ok (.bipush 53, 2) := by decide +kernel
theorem dX4_type_33 : decode cX4_type 33 = .ok (.if_icmp .ge 19, 3) := by decide +kernel
theorem dX4_type_36 : decode cX4_type 36 = .ok (.iload_n 2, 1) := by decide +kernel
theorem dX4_type_37 : decode cX4_type 37 = .ok (.aload_n 0, 1) := by decide +kernel
theorem dX4_type_38 : decode cX4_type 38 = .ok (.aload_n 0, 1) := by decide +kernel
theorem dX4_type_39 : decode cX4_type 39 = .ok (.getfield 109, 3) := by decide +kernel
theorem dX4_type_42 : decode cX4_type 42 = .ok (.invokevirtual 115, 3) := by decide +kernel
theorem dX4_type_45 : decode cX4_type 45 = .ok (.if_icmp .eq 7, 3) := by decide +kernel
theorem dX4_type_48 : decode cX4_type 48 = .ok (.iconst 1, 1) := by decide +kernel
theorem dX4_type_49 : decode cX4_type 49 = .ok (.goto 4, 3) := by decide +kernel
theorem dX4_type_52 : decode cX4_type 52 = .ok (.iconst 0, 1) := by decide +kernel
theorem dX4_type_53 : decode cX4_type 53 = .ok (.istore_n 3, 1) := by decide +kernel
theorem dX4_type_54 : decode cX4_type 54 = .ok (.aload_n 0, 1) := by decide +kernel
theorem dX4_type_55 : decode cX4_type 55 = .ok (.getfield 109, 3) := by decide +kernel
theorem dX4_type_58 : decode cX4_type 58 = .ok (.iload_n 3, 1) := by decide +kernel
theorem dX4_type_59 : decode cX4_type 59 = .ok (.ifCond .eq 7, 3) := by decide +kernel
theorem dX4_type_62 : decode cX4_type 62 = .ok (.iconst 2, 1) := by decide +kernel
theorem dX4_type_63 : decode cX4_type 63 = .ok (.goto 4, 3) := by decide +kernel
theorem dX4_type_66 : decode cX4_type 66 = .ok (.iconst 1, 1) := by decide +kernel
theorem dX4_type_67 : decode cX4_type 67 = .ok (.iadd, 1) := by decide +kernel
theorem dX4_type_68 : decode cX4_type 68 = .ok (.bipush 120, 2) := by decide +kernel
theorem dX4_type_70 : decode cX4_type 70 = .ok (.if_icmp .le 9, 3) := by decide +kernel
theorem dX4_type_73 : decode cX4_type 73 = .ok (.aload_n 0, 1) := by decide +kernel
theorem dX4_type_74 : decode cX4_type 74 = .ok (.iconst 2, 1) := by decide +kernel
theorem dX4_type_75 : decode cX4_type 75 = .ok (.invokevirtual 47, 3) := by decide +kernel
theorem dX4_type_78 : decode cX4_type 78 = .ok (.ireturn, 1) := by decide +kernel
theorem dX4_type_79 : decode cX4_type 79 = .ok (.iload_n 3, 1) := by decide +kernel
theorem dX4_type_80 : decode cX4_type 80 = .ok (.ifCond .eq 18, 3) := by decide +kernel
theorem dX4_type_83 : decode cX4_type 83 = .ok (.aload_n 0, 1) := by decide +kernel
theorem dX4_type_84 : decode cX4_type 84 = .ok (.iload_n 2, 1) := by decide +kernel
theorem dX4_type_85 : decode cX4_type 85 = .ok (.ifCond .eq 8, 3) := by decide +kernel
theorem dX4_type_88 : decode cX4_type 88 = .ok (.bipush 27, 2) := by decide +kernel
theorem dX4_type_90 : decode cX4_type 90 = .ok (.goto 5, 3) := by decide +kernel
theorem dX4_type_93 : decode cX4_type 93 = .ok (.bipush 31, 2) := by decide +kernel
theorem dX4_type_95 : decode cX4_type 95 = .ok (.invokevirtual 112, 3) := by decide +kernel
theorem dX4_type_98 : decode cX4_type 98 = .ok (.aload_n 0, 1) := by decide +kernel
theorem dX4_type_99 : decode cX4_type 99 = .ok (.iload_n 1, 1) := by decide +kernel
theorem dX4_type_100 : decode cX4_type 100 = .ok (.invokestatic 43, 3) := by decide +kernel
theorem dX4_type_103 : decode cX4_type 103 = .ok (.invokevirtual 112, 3) := by decide +kernel
theorem dX4_type_106 : decode cX4_type 106 = .ok (.iload_n 3, 1) := by decide +kernel
theorem dX4_type_107 : decode cX4_type 107 = .ok (.ifCond .eq 7, 3) := by decide +kernel
theorem dX4_type_110 : decode cX4_type 110 = .ok (.iconst 2, 1) := by decide +kernel
theorem dX4_type_111 : decode cX4_type 111 = .ok (.goto 4, 3) := by decide +kernel
theorem dX4_type_114 : decode cX4_type 114 = .ok (.iconst 1, 1) := by decide +kernel
theorem dX4_type_115 : decode cX4_type 115 = .ok (.ireturn, 1) := by decide +kernel
set_option maxRecDepth 20000 in
theorem ggX4_isPlace_X4_isIn : GoodIn wsX4_isPlace wsX4_isIn := goodIn_r _ [5] (by decide +kernel) (by decide +kernel)
set_option maxRecDepth 20000 in
theorem gX4_isPlace_X4_isIn : GoodIn wsX4_isPlace (va_wsS RX4 32 yX4_isIn wsX4_isIn) := goodIn_app (goodIn_of _ (by decide +kernel)) ggX4_isPlace_X4_isIn
theorem dX4_isPlace_0 : decode cX4_isPlace 0 = .ok (.iload_n 1, 1) := by decide +kernel
theorem dX4_isPlace_1 : decode cX4_isPlace 1 = .ok (.iconst 0, 1) := by decide +kernel
theorem dX4_isPlace_2 : decode cX4_isPlace 2 = .ok (.aload_n 0, 1) := by decide +kernel
theorem dX4_isPlace_3 : decode cX4_isPlace 3 = .ok (.getfield 109, 3) := by decide +kernel
theorem dX4_isPlace_6 : decode cX4_isPlace 6 = .ok (.iconst 1, 1) := by decide +kernel
theorem dX4_isPlace_7 : decode cX4_isPlace 7 = .ok (.isub, 1) := by decide +kernel
theorem dX4_isPlace_8 : decode cX4_isPlace 8 = .ok (.invokestatic 32, 3) := by decide +kernel
theorem dX4_isPlace_11 : decode cX4_isPlace 11 = .ok (.ireturn, 1) := by decide +kernel
set_option maxRecDepth 20000 in
theorem ggX4_rub_X4_isPlace : GoodIn wsX4_rub wsX4_isPlace := goodIn_r _ [7, 8, 9, 10, 6, 11, 16, 17, 18, 19, 20, 21, 22, 23, 24, 25, 26, 27, 28, 29, 30, 31] (by decide +kernel) (by decide +kernel)
set_option maxRecDepth 20000 in
theorem gX4_rub_X4_isPlace : GoodIn wsX4_rub (wsV RX4 118 RX4 yX4_isPlace wsX4_isPlace) := goodIn_app (goodIn_of _ (by decide +kernel)) ggX4_rub_X4_isPlace
set_option maxRecDepth 20000 in
theorem ggX4_rub_X4_fail : GoodIn wsX4_rub wsX4_fail := goodIn_r _ [15, 1, 16, 17, 18, 19, 20, 21, 22, 23, 24, 25, 26, 27, 28, 29, 30, 31] (by decide +kernel) (by decide +kernel)
set_option maxRecDepth 20000 in
theorem gX4_rub_X4_fail : GoodIn wsX4_rub (wsV RX4 47 RX4 yX4_fail wsX4_fail) := goodIn_app (goodIn_of _ (by decide +kernel)) ggX4_rub_X4_fail
theorem dX4_rub_0 : decode cX4_rub 0 = .ok (.aload_n 0, 1) := by decide +kernel
theorem dX4_rub_1 : decode cX4_rub 1 = .ok (.iconst 0, 1) := by decide +kernel
theorem dX4_rub_2 : decode cX4_rub 2 = .ok (.putfield 29, 3) := by decide +kernel
theorem dX4_rub_5 : decode cX4_rub 5 = .ok (.aload_n 0, 1) := by decide +kernel
theorem dX4_rub_6 : decode cX4_rub 6 = .ok (.iload_n 1, 1) := by decide +kernel
theorem dX4_rub_7 : decode cX4_rub 7 = .ok (.invokevirtual 118, 3) := by decide +kernel
theorem dX4_rub_10 : decode cX4_rub 10 = .ok (.ifCond .ne 9, 3) := by decide +kernel
theorem dX4_rub_13 : decode cX4_rub 13 = .ok (.aload_n 0, 1) := by decide +kernel
theorem dX4_rub_14 : decode cX4_rub 14 = .ok (.iconst 1, 1) := by decide +kernel
theorem dX4_rub_15 : decode cX4_rub 15 = .ok (.invokevirtual 47, 3) := by decide +kernel
theorem dX4_rub_18 : decode cX4_rub 18 = .ok (.ireturn, 1) := by decide +kernel
theorem dX4_rub_19 : decode cX4_rub 19 = .ok (.aload_n 0, 1) := by decide +kernel
theorem dX4_rub_20 : decode cX4_rub 20 = .ok (.getfield 26, 3) := by decide +kernel
theorem dX4_rub_23 : decode cX4_rub 23 = .ok (.iload_n 1, 1) := by decide +kernel
theorem dX4_rub_24 : decode cX4_rub 24 = .ok (.iaload, 1) := by decide +kernel
theorem dX4_rub_25 : decode cX4_rub 25 = .ok (.istore_n 2, 1) := by decide +kernel
theorem dX4_rub_26 : decode cX4_rub 26 = .ok (.aload_n 0, 1) := by decide +kernel
theorem dX4_rub_27 : decode cX4_rub 27 = .ok (.getfield 26, 3) := by decide +kernel
theorem dX4_rub_30 : decode cX4_rub 30 = .ok (.iload_n 1, 1) := by decide +kernel
theorem dX4_rub_31 : decode cX4_rub 31 = .ok (.bipush 31, 2) := by decide +kernel
theorem dX4_rub_33 : decode cX4_rub 33 = .ok (.iastore, 1) := by decide +kernel
theorem dX4_rub_34 : decode cX4_rub 34 = .ok (.iload_n 2, 1) := by decide +kernel
theorem dX4_rub_35 : decode cX4_rub 35 = .ok (.ireturn, 1) := by decide +kernel
set_option maxRecDepth 20000 in
theorem ggX4_run_X4_isIn : GoodIn wsX4_run wsX4_isIn := goodIn_r _ [12] (by decide +kernel) (by decide +kernel)
set_option maxRecDepth 20000 in
theorem gX4_run_X4_isIn : GoodIn wsX4_run (va_wsS RX4 32 yX4_isIn wsX4_isIn) := goodIn_app (goodIn_of _ (by decide +kernel)) ggX4_run_X4_isIn
set_option maxRecDepth 20000 in
theorem ggX4_run_X4_fail : GoodIn wsX4_run wsX4_fail := goodIn_r _ [16, 1, 63, 64, 65, 66, 67, 68, 69, 70, 71, 72, 73, 74, 75, 76, 77, 78] (by decide +kernel) (by decide +kernel)
set_option maxRecDepth 20000 in
theorem gX4_run_X4_fail : GoodIn wsX4_run (wsV RX4 47 RX4 yX4_fail wsX4_fail) := goodIn_app (goodIn_of _ (by decide +kernel)) ggX4_run_X4_fail
set_option maxRecDepth 20000 in
theorem ggX4_run_X4_come : GoodIn wsX4_run wsX4_come := goodIn_r _ [20, 21, 22, 23, 24, 25, 11, 26, 27, 28, 29, 30, 31, 32, 33, 34, 35, 36, 37, 38, 39, 40, 41, 42, 43, 44, 45, 46, 47, 48, 49, 50, 51, 52, 53, 54, 55, 56, 57, 58, 59, 60, 61, 62, 63, 64, 65, 66, 67, 68, 69, 70, 71, 72, 73, 74, 75, 76, 77, 78] (by decide +kernel) (by decide +kernel)
set_option maxRecDepth 20000 in
theorem gX4_run_X4_come : GoodIn wsX4_run (wsV RX4 106 RX4 yX4_come wsX4_come) := goodIn_app (goodIn_of _ (by decide +kernel)) ggX4_run_X4_come
theorem dX4_run_0 : decode cX4_run 0 = .ok (.aload_n 0, 1) := by decide +kernel
theorem dX4_run_1 : decode cX4_run 1 = .ok (.iconst 0, 1) := by decide +kernel
theorem dX4_run_2 : decode cX4_run 2 = .ok (.putfield 29, 3) := by decide +kernel
theorem dX4_run_5 : decode cX4_run 5 = .ok (.iload_n 1, 1) := by decide +kernel
theorem dX4_run_6 : decode cX4_run 6 = .ok (.iconst 1, 1) := by decide +kernel
theorem dX4_run_7 : decode cX4_run 7 = .ok (.bipush 120, 2) := by decide +kernel
theorem dX4_run_9 : decode cX4_run 9 = .ok (.invokestatic 32, 3) := by decide +kernel
theorem dX4_run_12 : decode cX4_run 12 = .ok (.ifCond .ne 9, 3) := by decide +kernel
theorem dX4_run_15 : decode cX4_run 15 = .ok (.aload_n 0, 1) := by decide +kernel
theorem dX4_run_16 : decode cX4_run 16 = .ok (.iconst 1, 1) := by decide +kernel
theorem dX4_run_17 : decode cX4_run 17 = .ok (.invokevirtual 47, 3) := by decide +kernel
theorem dX4_run_20 : decode cX4_run 20 = .ok (.ireturn, 1) := by decide +kernel
theorem dX4_run_21 : decode cX4_run 21 = .ok (.iload_n 1, 1) := by decide +kernel
theorem dX4_run_22 : decode cX4_run 22 = .ok (.aload_n 0, 1) := by decide +kernel
theorem dX4_run_23 : decode cX4_run 23 = .ok (.getfield 109, 3) := by decide +kernel
theorem dX4_run_26 : decode cX4_run 26 = .ok (.aload_n 0, 1) := by decide +kernel
theorem dX4_run_27 : decode cX4_run 27 = .ok (.getfield 121, 3) := by decide +kernel
theorem dX4_run_30 : decode cX4_run 30 = .ok (.isub, 1) := by decide +kernel
theorem dX4_run_31 : decode cX4_run 31 = .ok (.invokestatic 124, 3) := by decide +kernel
theorem dX4_run_34 : decode cX4_run 34 = .ok (.istore_n 2, 1) := by decide +kernel
theorem dX4_run_35 : decode cX4_run 35 = .ok (.iconst 0, 1) := by decide +kernel
theorem dX4_run_36 : decode cX4_run 36 = .ok (.istore_n 3, 1) := by decide +kernel
theorem dX4_run_37 : decode cX4_run 37 = .ok (.iload_n 3, 1) := by decide +kernel
theorem dX4_run_38 : decode cX4_run 38 = .ok (.iload_n 2, 1) := by decide +kernel
theorem dX4_run_39 : decode cX4_run 39 = .ok (.if_icmp .ge 25, 3) := by decide +kernel
theorem dX4_run_42 : decode cX4_run 42 = .ok (.aload_n 0, 1) := by decide +kernel
theorem dX4_run_43 : decode cX4_run 43 = .ok (.aload_n 0, 1) := by decide +kernel
theorem dX4_run_44 : decode cX4_run 44 = .ok (.getfield 26, 3) := by decide +kernel
theorem dX4_run_47 : decode cX4_run 47 = .ok (.aload_n 0, 1) := by decide +kernel
theorem dX4_run_48 : decode cX4_run 48 = .ok (.getfield 121, 3) := by decide +kernel
theorem dX4_run_51 : decode cX4_run 51 = .ok (.iload_n 3, 1) := by decide +kernel
theorem dX4_run_52 : decode cX4_run 52 = .ok (.iadd, 1) := by decide +kernel
theorem dX4_run_53 : decode cX4_run 53 = .ok (.iaload, 1) := by decide +kernel
theorem dX4_run_54 : decode cX4_run 54 = .ok (.invokevirtual 106, 3) := by decide +kernel
theorem dX4_run_57 : decode cX4_run 57 = .ok (.pop, 1) := by decide +kernel
theorem dX4_run_58 : decode cX4_run 58 = .ok (.iinc 3 1, 3) := by decide +kernel
theorem dX4_run_61 : decode cX4_run 61 = .ok (.goto (-24), 3) := by decide +kernel
theorem dX4_run_64 : decode cX4_run 64 = .ok (.aload_n 0, 1) := by decide +kernel
theorem dX4_run_65 : decode cX4_run 65 = .ok (.dup, 1) := by decide +kernel
theorem dX4_run_66 : decode cX4_run 66 = .ok (.getfield 121, 3) := by decide +kernel
theorem dX4_run_69 : decode cX4_run 69 = .ok (.iload_n 2, 1) := by decide +kernel
theorem dX4_run_70 : decode cX4_run 70 = .ok (.iadd, 1) := by decide +kernel
theorem dX4_run_71 : decode cX4_run 71 = .ok (.putfield 121, 3) := by decide +kernel
theorem dX4_run_74 : decode cX4_run 74 = .ok (.iload_n 2, 1) := by decide +kernel
theorem dX4_run_75 : decode cX4_run 75 = .ok (.ireturn, 1) := by decide +kernel
set_option maxRecDepth 20000 in
theorem ggX4_wind_X4_isIn : GoodIn wsX4_wind wsX4_isIn := goodIn_r _ [7] (by decide +kernel) (by decide +kernel)
set_option maxRecDepth 20000 in
theorem gX4_wind_X4_isIn : GoodIn wsX4_wind (va_wsS RX4 32 yX4_isIn wsX4_isIn) := goodIn_app (goodIn_of _ (by decide +kernel)) ggX4_wind_X4_isIn
set_option maxRecDepth 20000 in
theorem ggX4_wind_X4_fail : GoodIn wsX4_wind wsX4_fail := goodIn_r _ [11, 1, 12, 13, 14, 15, 16, 17, 18, 19, 20, 21, 22, 23, 24, 25, 26, 27] (by decide +kernel) (by decide +kernel)
set_option maxRecDepth 20000 in
theorem gX4_wind_X4_fail : GoodIn wsX4_wind (wsV RX4 47 RX4 yX4_fail wsX4_fail) := goodIn_app (goodIn_of _ (by decide +kernel)) ggX4_wind_X4_fail
theorem dX4_wind_0 : decode cX4_wind 0 = .ok (.aload_n 0, 1) := by decide +kernel
theorem dX4_wind_1 : decode cX4_wind 1 = .ok (.iconst 0, 1) := by decide +kernel
theorem dX4_wind_2 : decode cX4_wind 2 = .ok (.putfield 29, 3) := by decide +kernel
theorem dX4_wind_5 : decode cX4_wind 5 = .ok (.iload_n 1, 1) := by decide +kernel
theorem dX4_wind_6 : decode cX4_wind 6 = .ok (.iconst 0, 1) := by decide +kernel
theorem dX4_wind_7 : decode cX4_wind 7 = .ok (.aload_n 0, 1) := by decide +kernel
theorem dX4_wind_8 : decode cX4_wind 8 = .ok (.getfield 109, 3) := by decide +kernel
theorem dX4_wind_11 : decode cX4_wind 11 = .ok (.invokestatic 32, 3) := by decide +kernel
theorem dX4_wind_14 : decode cX4_wind 14 = .ok (.ifCond .ne 9, 3) := by decide +kernel
theorem dX4_wind_17 : decode cX4_wind 17 = .ok (.aload_n 0, 1) := by decide +kernel
theorem dX4_wind_18 : decode cX4_wind 18 = .ok (.iconst 1, 1) := by decide +kernel
theorem dX4_wind_19 : decode cX4_wind 19 = .ok (.invokevirtual 47, 3) := by decide +kernel
theorem dX4_wind_22 : decode cX4_wind 22 = .ok (.ireturn, 1) := by decide +kernel
theorem dX4_wind_23 : decode cX4_wind 23 = .ok (.aload_n 0, 1) := by decide +kernel
theorem dX4_wind_24 : decode cX4_wind 24 = .ok (.getfield 121, 3) := by decide +kernel
theorem dX4_wind_27 : decode cX4_wind 27 = .ok (.istore_n 2, 1) := by decide +kernel
theorem dX4_wind_28 : decode cX4_wind 28 = .ok (.aload_n 0, 1) := by decide +kernel
theorem dX4_wind_29 : decode cX4_wind 29 = .ok (.iload_n 1, 1) := by decide +kernel
theorem dX4_wind_30 : decode cX4_wind 30 = .ok (.putfield 121, 3) := by decide +kernel
theorem dX4_wind_33 : decode cX4_wind 33 = .ok (.iload_n 2, 1) := by decide +kernel
theorem dX4_wind_34 : decode cX4_wind 34 = .ok (.ireturn, 1) := by decide +kernel
set_option maxRecDepth 20000 in
theorem ggX4_tape_X4_isPlace : GoodIn wsX4_tape wsX4_isPlace := goodIn_r _ [7, 8, 9, 10, 6, 11, 16, 17, 18, 19, 20, 21, 22, 23, 24, 25, 26, 27, 28, 29, 30, 31] (by decide +kernel) (by decide +kernel)
set_option maxRecDepth 20000 in
theorem gX4_tape_X4_isPlace : GoodIn wsX4_tape (wsV RX4 118 RX4 yX4_isPlace wsX4_isPlace) := goodIn_app (goodIn_of _ (by decide +kernel)) ggX4_tape_X4_isPlace
set_option maxRecDepth 20000 in
theorem ggX4_tape_X4_fail : GoodIn wsX4_tape wsX4_fail := goodIn_r _ [15, 1, 16, 17, 18, 19, 20, 21, 22, 23, 24, 25, 26, 27, 28, 29, 30, 31] (by decide +kernel) (by decide +kernel)
set_option maxRecDepth 20000 in
theorem gX4_tape_X4_fail : GoodIn wsX4_tape (wsV RX4 47 RX4 yX4_fail wsX4_fail) := goodIn_app (goodIn_of _ (by decide +kernel)) ggX4_tape_X4_fail
theorem dX4_tape_0 : decode cX4_tape 0 = .ok (.aload_n 0, 1) := by decide +kernel
theorem dX4_tape_1 : decode cX4_tape 1 = .ok (.iconst 0, 1) := by decide +kernel
theorem dX4_tape_2 : decode cX4_tape 2 = .ok (.putfield 29, 3) := by decide +kernel
theorem dX4_tape_5 : decode cX4_tape 5 = .ok (.aload_n 0, 1) := by decide +kernel
theorem dX4_tape_6 : decode cX4_tape 6 = .ok (.iload_n 1, 1) := by decide +kernel
theorem dX4_tape_7 : decode cX4_tape 7 = .ok (.invokevirtual 118, 3) := by decide +kernel
theorem dX4_tape_10 : decode cX4_tape 10 = .ok (.ifCond .eq 12, 3) := by decide +kernel
theorem dX4_tape_13 : decode cX4_tape 13 = .ok (.aload_n 0, 1) := by decide +kernel
theorem dX4_tape_14 : decode cX4_tape 14 = .ok (.getfield 26, 3) := by decide +kernel
theorem dX4_tape_17 : decode cX4_tape 17 = .ok (.iload_n 1, 1) := by decide +kernel
theorem dX4_tape_18 : decode cX4_tape 18 = .ok (.iaload, 1) := by decide +kernel
theorem dX4_tape_19 : decode cX4_tape 19 = .ok (.goto 8, 3) := by decide +kernel
theorem dX4_tape_22 : decode cX4_tape 22 = .ok (.aload_n 0, 1) := by decide +kernel
theorem dX4_tape_23 : decode cX4_tape 23 = .ok (.iconst 1, 1) := by decide +kernel
theorem dX4_tape_24 : decode cX4_tape 24 = .ok (.invokevirtual 47, 3) := by decide +kernel
theorem dX4_tape_27 : decode cX4_tape 27 = .ok (.ireturn, 1) := by decide +kernel
set_option maxRecDepth 20000 in
theorem ggX4_isLine_X4_isIn : GoodIn wsX4_isLine wsX4_isIn := goodIn_r _ [5] (by decide +kernel) (by decide +kernel)
set_option maxRecDepth 20000 in
theorem gX4_isLine_X4_isIn : GoodIn wsX4_isLine (va_wsS RX4 32 yX4_isIn wsX4_isIn) := goodIn_app (goodIn_of _ (by decide +kernel)) ggX4_isLine_X4_isIn
theorem dX4_isLine_0 : decode cX4_isLine 0 = .ok (.iload_n 1, 1) := by decide +kernel
theorem dX4_isLine_1 : decode cX4_isLine 1 = .ok (.iconst 0, 1) := by decide +kernel
theorem dX4_isLine_2 : decode cX4_isLine 2 = .ok (.aload_n 0, 1) := by decide +kernel
theorem dX4_isLine_3 : decode cX4_isLine 3 = .ok (.getfield 7, 3) := by decide +kernel
theorem dX4_isLine_6 : decode cX4_isLine 6 = .ok (.iconst 1, 1) := by decide +kernel
theorem dX4_isLine_7 : decode cX4_isLine 7 = .ok (.isub, 1) := by decide +kernel
theorem dX4_isLine_8 : decode cX4_isLine 8 = .ok (.invokestatic 32, 3) := by decide +kernel
theorem dX4_isLine_11 : decode cX4_isLine 11 = .ok (.ireturn, 1) := by decide +kernel
set_option maxRecDepth 20000 in
theorem ggX4_page_X4_isLine : GoodIn wsX4_page wsX4_isLine := goodIn_r _ [8, 9, 10, 11, 7, 12, 17, 18, 19, 20, 21, 22, 23, 24, 25, 26, 27, 28, 29, 30, 31, 32] (by decide +kernel) (by decide +kernel)
set_option maxRecDepth 20000 in
theorem gX4_page_X4_isLine : GoodIn wsX4_page (wsV RX4 129 RX4 yX4_isLine wsX4_isLine) := goodIn_app (goodIn_of _ (by decide +kernel)) ggX4_page_X4_isLine
set_option maxRecDepth 20000 in
theorem ggX4_page_X4_isIn : GoodIn wsX4_page wsX4_isIn := goodIn_r _ [12] (by decide +kernel) (by decide +kernel)
set_option maxRecDepth 20000 in
theorem gX4_page_X4_isIn : GoodIn wsX4_page (va_wsS RX4 32 yX4_isIn wsX4_isIn) := goodIn_app (goodIn_of _ (by decide +kernel)) ggX4_page_X4_isIn
set_option maxRecDepth 20000 in
theorem ggX4_page_X4_fail : GoodIn wsX4_page wsX4_fail := goodIn_r _ [16, 1, 17, 18, 19, 20, 21, 22, 23, 24, 25, 26, 27, 28, 29, 30, 31, 32] (by decide +kernel) (by decide +kernel)
set_option maxRecDepth 20000 in
theorem gX4_page_X4_fail : GoodIn wsX4_page (wsV RX4 47 RX4 yX4_fail wsX4_fail) := goodIn_app (goodIn_of _ (by decide +kernel)) ggX4_page_X4_fail
theorem dX4_page_0 : decode cX4_page 0 = .ok (.aload_n 0, 1) := by decide +kernel
theorem dX4_page_1 : decode cX4_page 1 = .ok (.iconst 0, 1) := by decide +kernel
theorem dX4_page_2 : decode cX4_page 2 = .ok (.putfield 29, 3) := by decide +kernel
theorem dX4_page_5 : decode cX4_page 5 = .ok (.aload_n 0, 1) := by decide +kernel
theorem dX4_page_6 : decode cX4_page 6 = .ok (.iload_n 1, 1) := by decide +kernel
theorem dX4_page_7 : decode cX4_page 7 = .ok (.invokevirtual 129, 3) := by decide +kernel
theorem dX4_page_10 : decode cX4_page 10 = .ok (.ifCond .eq 33, 3) := by decide +kernel
theorem dX4_page_13 : decode cX4_page 13 = .ok (.iload_n 2, 1) := by decide +kernel
theorem dX4_page_14 : decode cX4_page 14 = .ok (.iconst 0, 1) := by decide +kernel
theorem dX4_page_15 : decode cX4_page 15 = .ok (.aload_n 0, 1) := by decide +kernel
theorem dX4_page_16 : decode cX4_page 16 = .ok (.getfield 13, 3) := by decide +kernel
theorem dX4_page_19 : decode cX4_page 19 = .ok (.iload_n 1, 1) := by decide +kernel
theorem dX4_page_20 : decode cX4_page 20 = .ok (.iaload, 1) := by decide +kernel
theorem dX4_page_21 : decode cX4_page 21 = .ok (.iconst 1, 1) := by decide +kernel
theorem dX4_page_22 : decode cX4_page 22 = .ok (.isub, 1) := by decide +kernel
theorem dX4_page_23 : decode cX4_page 23 = .ok (.invokestatic 32, 3) := by decide +kernel
theorem dX4_page_26 : decode cX4_page 26 = .ok (.ifCond .eq 17, 3) := by decide +kernel
theorem dX4_page_29 : decode cX4_page 29 = .ok (.aload_n 0, 1) := by decide +kernel
theorem dX4_page_30 : decode cX4_page 30 = .ok (.getfield 17, 3) := by decide +kernel
theorem dX4_page_33 : decode cX4_page 33 = .ok (.bipush 40, 2) := by decide +kernel
theorem dX4_page_35 : decode cX4_page 35 = .ok (.iload_n 1, 1) := by decide +kernel
theorem dX4_page_36 : decode cX4_page 36 = .ok (.imul, 1) := by decide +kernel
theorem dX4_page_37 : decode cX4_page 37 = .ok (.iload_n 2, 1) := by decide +kernel
theorem dX4_page_38 : decode cX4_page 38 = .ok (.iadd, 1) := by decide +kernel
theorem dX4_page_39 : decode cX4_page 39 = .ok (.iaload, 1) := by decide +kernel
theorem dX4_page_40 : decode cX4_page 40 = .ok (.goto 8, 3) := by decide +kernel
theorem dX4_page_43 : decode cX4_page 43 = .ok (.aload_n 0, 1) := by decide +kernel
theorem dX4_page_44 : decode cX4_page 44 = .ok (.iconst 1, 1) := by decide +kernel
theorem dX4_page_45 : decode cX4_page 45 = .ok (.invokevirtual 47, 3) := by decide +kernel
theorem dX4_page_48 : decode cX4_page 48 = .ok (.ireturn, 1) := by decide +kernel
set_option maxRecDepth 20000 in
theorem ggX4_length_X4_isLine : GoodIn wsX4_length wsX4_isLine := goodIn_r _ [7, 8, 9, 10, 6, 11, 16, 17, 18, 19, 20, 21, 22, 23, 24, 25, 26, 27, 28, 29, 30, 31] (by decide +kernel) (by decide +kernel)
set_option maxRecDepth 20000 in
theorem gX4_length_X4_isLine : GoodIn wsX4_length (wsV RX4 129 RX4 yX4_isLine wsX4_isLine) := goodIn_app (goodIn_of _ (by decide +kernel)) ggX4_length_X4_isLine
set_option maxRecDepth 20000 in
theorem ggX4_length_X4_fail : GoodIn wsX4_length wsX4_fail := goodIn_r _ [15, 1, 16, 17, 18, 19, 20, 21, 22, 23, 24, 25, 26, 27, 28, 29, 30, 31] (by decide +kernel) (by decide +kernel)
set_option maxRecDepth 20000 in
theorem gX4_length_X4_fail : GoodIn wsX4_length (wsV RX4 47 RX4 yX4_fail wsX4_fail) := goodIn_app (goodIn_of _ (by decide +kernel)) ggX4_length_X4_fail
theorem dX4_length_0 : decode cX4_length 0 = .ok (.aload_n 0, 1) := by decide +kernel
theorem dX4_length_1 : decode cX4_length 1 = .ok (.iconst 0, 1) := by decide +kernel
theorem dX4_length_2 : decode cX4_length 2 = .ok (.putfield 29, 3) := by decide +kernel
theorem dX4_length_5 : decode cX4_length 5 = .ok (.aload_n 0, 1) := by decide +kernel
theorem dX4_length_6 : decode cX4_length 6 = .ok (.iload_n 1, 1) := by decide +kernel
theorem dX4_length_7 : decode cX4_length 7 = .ok (.invokevirtual 129, 3) := by decide +kernel
theorem dX4_length_10 : decode cX4_length 10 = .ok (.ifCond .eq 12, 3) := by decide +kernel
theorem dX4_length_13 : decode cX4_length 13 = .ok (.aload_n 0, 1) := by decide +kernel
theorem dX4_length_14 : decode cX4_length 14 = .ok (.getfield 13, 3) := by decide +kernel
theorem dX4_length_17 : decode cX4_length 17 = .ok (.iload_n 1, 1) := by decide +kernel
theorem dX4_length_18 : decode cX4_length 18 = .ok (.iaload, 1) := by decide +kernel
theorem dX4_length_19 : decode cX4_length 19 = .ok (.goto 8, 3) := by decide +kernel
theorem dX4_length_22 : decode cX4_length 22 = .ok (.aload_n 0, 1) := by decide +kernel
theorem dX4_length_23 : decode cX4_length 23 = .ok (.iconst 1, 1) := by decide +kernel
theorem dX4_length_24 : decode cX4_length 24 = .ok (.invokevirtual 47, 3) := by decide +kernel
theorem dX4_length_27 : decode cX4_length 27 = .ok (.ireturn, 1) := by decide +kernel
theorem dX4_counted_0 : decode cX4_counted 0 = .ok (.iload_n 1, 1) := by decide +kernel
theorem dX4_counted_1 : decode cX4_counted 1 = .ok (.tableswitch 145 0 9 #[55, 60, 89, 102, 107, 112, 117, 122, 127, 132], 55) := by decide +kernel
theorem dX4_counted_56 : decode cX4_counted 56 = .ok (.aload_n 0, 1) := by decide +kernel
theorem dX4_counted_57 : decode cX4_counted 57 = .ok (.getfield 7, 3) := by decide +kernel
theorem dX4_counted_60 : decode cX4_counted 60 = .ok (.ireturn, 1) := by decide +kernel
theorem dX4_counted_61 : decode cX4_counted 61 = .ok (.iconst 0, 1) := by decide +kernel
theorem dX4_counted_62 : decode cX4_counted 62 = .ok (.istore_n 2, 1) := by decide +kernel
theorem dX4_counted_63 : decode cX4_counted 63 = .ok (.iconst 0, 1) := by decide +kernel
theorem dX4_counted_64 : decode cX4_counted 64 = .ok (.istore_n 3, 1) := by decide +kernel
theorem dX4_counted_65 : decode cX4_counted 65 = .ok (.iload_n 3, 1) := by decide +kernel
theorem dX4_counted_66 : decode cX4_counted 66 = .ok (.aload_n 0, 1) := by decide +kernel
theorem dX4_counted_67 : decode cX4_counted 67 = .ok (.getfield 7, 3) := by decide +kernel
theorem dX4_counted_70 : decode cX4_counted 70 = .ok (.if_icmp .ge 18, 3) := by decide +kernel
theorem dX4_counted_73 : decode cX4_counted 73 = .ok (.iload_n 2, 1) := by decide +kernel
theorem dX4_counted_74 : decode cX4_counted 74 = .ok (.aload_n 0, 1) := by decide +kernel
theorem dX4_counted_75 : decode cX4_counted 75 = .ok (.getfield 13, 3) := by decide +kernel
theorem dX4_counted_78 : decode cX4_counted 78 = .ok (.iload_n 3, 1) := by decide +kernel
theorem dX4_counted_79 : decode cX4_counted 79 = .ok (.iaload, 1) := by decide +kernel
theorem dX4_counted_80 : decode cX4_counted 80 = .ok (.iadd, 1) := by decide +kernel
theorem dX4_counted_81 : decode cX4_counted 81 = .ok (.istore_n 2, 1) := by decide +kernel
theorem dX4_counted_82 : decode cX4_counted 82 = .ok (.iinc 3 1, 3) := by decide +kernel
theorem dX4_counted_85 : decode cX4_counted 85 = .ok (.goto (-20), 3) := by decide +kernel
theorem dX4_counted_88 : decode cX4_counted 88 = .ok (.iload_n 2, 1) := by decide +kernel
theorem dX4_counted_89 : decode cX4_counted 89 = .ok (.ireturn, 1) := by decide +kernel
theorem dX4_counted_90 : decode cX4_counted 90 = .ok (.aload_n 0, 1) := by decide +kernel
theorem dX4_counted_91 : decode cX4_counted 91 = .ok (.getfield 60, 3) := by decide +kernel
theorem dX4_counted_94 : decode cX4_counted 94 = .ok (.ifCond .eq 7, 3) := by decide +kernel
theorem dX4_counted_97 : decode cX4_counted 97 = .ok (.iconst 1, 1) := by decide +kernel
theorem dX4_counted_98 : decode cX4_counted 98 = .ok (.goto 4, 3) := by decide +kernel
theorem dX4_counted_101 : decode cX4_counted 101 = .ok (.iconst 0, 1) := by decide +kernel
theorem dX4_counted_102 : decode cX4_counted 102 = .ok (.ireturn, 1) := by decide +kernel
theorem dX4_counted_103 : decode cX4_counted 103 = .ok (.aload_n 0, 1) := by decide +kernel
theorem dX4_counted_104 : decode cX4_counted 104 = .ok (.getfield 64, 3) := by decide +kernel
theorem dX4_counted_107 : decode cX4_counted 107 = .ok (.ireturn, 1) := by decide +kernel
theorem dX4_counted_108 : decode cX4_counted 108 = .ok (.aload_n 0, 1) := by decide +kernel
theorem dX4_counted_109 : decode cX4_counted 109 = .ok (.getfield 109, 3) := by decide +kernel
theorem dX4_counted_112 : decode cX4_counted 112 = .ok (.ireturn, 1) := by decide +kernel
theorem dX4_counted_113 : decode cX4_counted 113 = .ok (.aload_n 0, 1) := by decide +kernel
theorem dX4_counted_114 : decode cX4_counted 114 = .ok (.getfield 121, 3) := by decide +kernel
theorem dX4_counted_117 : decode cX4_counted 117 = .ok (.ireturn, 1) := by decide +kernel
theorem dX4_counted_118 : decode cX4_counted 118 = .ok (.aload_n 0, 1) := by decide +kernel
theorem dX4_counted_119 : decode cX4_counted 119 = .ok (.getfield 93, 3) := by decide +kernel
theorem dX4_counted_122 : decode cX4_counted 122 = .ok (.ireturn, 1) := by decide +kernel
theorem dX4_counted_123 : decode cX4_counted 123 = .ok (.aload_n 0, 1) := by decide +kernel
theorem dX4_counted_124 : decode cX4_counted 124 = .ok (.getfield 100, 3) := by decide +kernel
theorem dX4_counted_127 : decode cX4_counted 127 = .ok (.ireturn, 1) := by decide +kernel
theorem dX4_counted_128 : decode cX4_counted 128 = .ok (.aload_n 0, 1) := by decide +kernel
theorem dX4_counted_129 : decode cX4_counted 129 = .ok (.getfield 70, 3) := by decide +kernel
theorem dX4_counted_132 : decode cX4_counted 132 = .ok (.ireturn, 1) := by decide +kernel
theorem dX4_counted_133 : decode cX4_counted 133 = .ok (.aload_n 0, 1) := by decide +kernel
theorem dX4_counted_134 : decode cX4_counted 134 = .ok (.getfield 67, 3) := by decide +kernel
theorem dX4_counted_137 : decode cX4_counted 137 = .ok (.ifCond .eq 7, 3) := by decide +kernel
theorem dX4_counted_140 : decode cX4_counted 140 = .ok (.iconst 1, 1) := by decide +kernel
theorem dX4_counted_141 : decode cX4_counted 141 = .ok (.goto 4, 3) := by decide +kernel
theorem dX4_counted_144 : decode cX4_counted 144 = .ok (.iconst 0, 1) := by decide +kernel
theorem dX4_counted_145 : decode cX4_counted 145 = .ok (.ireturn, 1) := by decide +kernel
theorem dX4_counted_146 : decode cX4_counted 146 = .ok (.aload_n 0, 1) := by decide +kernel
theorem dX4_counted_147 : decode cX4_counted 147 = .ok (.getfield 82, 3) := by decide +kernel
theorem dX4_counted_150 : decode cX4_counted 150 = .ok (.ireturn, 1) := by decide +kernel
set_option maxRecDepth 20000 in
theorem ggX4_count_X4_isIn : GoodIn wsX4_count wsX4_isIn := goodIn_r _ [5] (by decide +kernel) (by decide +kernel)
set_option maxRecDepth 20000 in
theorem gX4_count_X4_isIn : GoodIn wsX4_count (va_wsS RX4 32 yX4_isIn wsX4_isIn) := goodIn_app (goodIn_of _ (by decide +kernel)) ggX4_count_X4_isIn
set_option maxRecDepth 20000 in
theorem ggX4_count_X4_counted : GoodIn wsX4_count wsX4_counted := goodIn_r _ [9, 10, 11, 12, 13, 14, 15, 16, 17, 18, 19, 20, 25, 26, 27, 28, 29, 30, 31, 32, 33, 34, 35, 36, 37, 38, 39, 40] (by decide +kernel) (by decide +kernel)
set_option maxRecDepth 20000 in
theorem gX4_count_X4_counted : GoodIn wsX4_count (wsV RX4 132 RX4 yX4_counted wsX4_counted) := goodIn_app (goodIn_of _ (by decide +kernel)) ggX4_count_X4_counted
set_option maxRecDepth 20000 in
theorem ggX4_count_X4_fail : GoodIn wsX4_count wsX4_fail := goodIn_r _ [24, 1, 25, 26, 27, 28, 29, 30, 31, 32, 33, 34, 35, 36, 37, 38, 39, 40] (by decide +kernel) (by decide +kernel)
set_option maxRecDepth 20000 in
theorem gX4_count_X4_fail : GoodIn wsX4_count (wsV RX4 47 RX4 yX4_fail wsX4_fail) := goodIn_app (goodIn_of _ (by decide +kernel)) ggX4_count_X4_fail
theorem dX4_count_0 : decode cX4_count 0 = .ok (.aload_n 0, 1) := by decide +kernel
theorem dX4_count_1 : decode cX4_count 1 = .ok (.iconst 0, 1) := by decide +kernel
theorem dX4_count_2 : decode cX4_count 2 = .ok (.putfield 29, 3) := by decide +kernel
theorem dX4_count_5 : decode cX4_count 5 = .ok (.iload_n 1, 1) := by decide +kernel
theorem dX4_count_6 : decode cX4_count 6 = .ok (.iconst 0, 1) := by decide +kernel
theorem dX4_count_7 : decode cX4_count 7 = .ok (.bipush 10, 2) := by decide +kernel
theorem dX4_count_9 : decode cX4_count 9 = .ok (.invokestatic 32, 3) := by decide +kernel
theorem dX4_count_12 : decode cX4_count 12 = .ok (.ifCond .eq 11, 3) := by decide +kernel
theorem dX4_count_15 : decode cX4_count 15 = .ok (.aload_n 0, 1) := by decide +kernel
theorem dX4_count_16 : decode cX4_count 16 = .ok (.iload_n 1, 1) := by decide +kernel
theorem dX4_count_17 : decode cX4_count 17 = .ok (.invokevirtual 132, 3) := by decide +kernel
theorem dX4_count_20 : decode cX4_count 20 = .ok (.goto 8, 3) := by decide +kernel
theorem dX4_count_23 : decode cX4_count 23 = .ok (.aload_n 0, 1) := by decide +kernel
theorem dX4_count_24 : decode cX4_count 24 = .ok (.iconst 1, 1) := by decide +kernel
theorem dX4_count_25 : decode cX4_count 25 = .ok (.invokevirtual 47, 3) := by decide +kernel
theorem dX4_count_28 : decode cX4_count 28 = .ok (.ireturn, 1) := by decide +kernel
set_option maxRecDepth 20000 in
theorem ggX4_would_X4_isCode : GoodIn wsX4_would wsX4_isCode := goodIn_r _ [6, 7, 8, 5, 9] (by decide +kernel) (by decide +kernel)
set_option maxRecDepth 20000 in
theorem gX4_would_X4_isCode : GoodIn wsX4_would (va_wsS RX4 50 yX4_isCode wsX4_isCode) := goodIn_app (goodIn_of _ (by decide +kernel)) ggX4_would_X4_isCode
set_option maxRecDepth 20000 in
theorem ggX4_would_X4_read : GoodIn wsX4_would wsX4_read := goodIn_r _ [13, 14, 15, 16, 21, 22, 23, 24, 25, 26, 27, 28, 29, 30, 31, 32, 33, 34, 35, 36] (by decide +kernel) (by decide +kernel)
set_option maxRecDepth 20000 in
theorem gX4_would_X4_read : GoodIn wsX4_would (wsV RX4 96 RX4 yX4_read wsX4_read) := goodIn_app (goodIn_of _ (by decide +kernel)) ggX4_would_X4_read
set_option maxRecDepth 20000 in
theorem ggX4_would_X4_fail : GoodIn wsX4_would wsX4_fail := goodIn_r _ [20, 1, 21, 22, 23, 24, 25, 26, 27, 28, 29, 30, 31, 32, 33, 34, 35, 36] (by decide +kernel) (by decide +kernel)
set_option maxRecDepth 20000 in
theorem gX4_would_X4_fail : GoodIn wsX4_would (wsV RX4 47 RX4 yX4_fail wsX4_fail) := goodIn_app (goodIn_of _ (by decide +kernel)) ggX4_would_X4_fail
theorem dX4_would_0 : decode cX4_would 0 = .ok (.aload_n 0, 1) := by decide +kernel
theorem dX4_would_1 : decode cX4_would 1 = .ok (.iconst 0, 1) := by decide +kernel
theorem dX4_would_2 : decode cX4_would 2 = .ok (.putfield 29, 3) := by decide +kernel
theorem dX4_would_5 : decode cX4_would 5 = .ok (.iload_n 1, 1) := by decide +kernel
theorem dX4_would_6 : decode cX4_would 6 = .ok (.invokestatic 50, 3) := by decide +kernel
theorem dX4_would_9 : decode cX4_would 9 = .ok (.ifCond .eq 15, 3) := by decide +kernel
theorem dX4_would_12 : decode cX4_would 12 = .ok (.aload_n 0, 1) := by decide +kernel
theorem dX4_would_13 : decode cX4_would 13 = .ok (.iload_n 1, 1) := by decide +kernel
theorem dX4_would_14 : decode cX4_would 14 = .ok (.aload_n 0, 1) := by decide +kernel
theorem dX4_would_15 : decode cX4_would 15 = .ok (.getfield 93, 3) := by decide +kernel
theorem dX4_would_18 : decode cX4_would 18 = .ok (.invokevirtual 96, 3) := by decide +kernel
theorem dX4_would_21 : decode cX4_would 21 = .ok (.goto 8, 3) := by decide +kernel
theorem dX4_would_24 : decode cX4_would 24 = .ok (.aload_n 0, 1) := by decide +kernel
theorem dX4_would_25 : decode cX4_would 25 = .ok (.iconst 1, 1) := by decide +kernel
theorem dX4_would_26 : decode cX4_would 26 = .ok (.invokevirtual 47, 3) := by decide +kernel
theorem dX4_would_29 : decode cX4_would 29 = .ok (.ireturn, 1) := by decide +kernel
set_option maxRecDepth 20000 in
theorem ggX4_wrong_X4_read : GoodIn wsX4_wrong wsX4_read := goodIn_r _ [10, 11, 12, 13, 14, 15, 16, 17, 18, 19, 20, 21, 22, 23, 24, 25, 26, 27, 28, 29] (by decide +kernel) (by decide +kernel)
set_option maxRecDepth 20000 in
theorem gX4_wrong_X4_read : GoodIn wsX4_wrong (wsV RX4 96 RX4 yX4_read wsX4_read) := goodIn_app (goodIn_of _ (by decide +kernel)) ggX4_wrong_X4_read
theorem dX4_wrong_0 : decode cX4_wrong 0 = .ok (.aload_n 0, 1) := by decide +kernel
theorem dX4_wrong_1 : decode cX4_wrong 1 = .ok (.iconst 0, 1) := by decide +kernel
theorem dX4_wrong_2 : decode cX4_wrong 2 = .ok (.putfield 29, 3) := by decide +kernel
theorem dX4_wrong_5 : decode cX4_wrong 5 = .ok (.iconst 0, 1) := by decide +kernel
theorem dX4_wrong_6 : decode cX4_wrong 6 = .ok (.istore_n 1, 1) := by decide +kernel
theorem dX4_wrong_7 : decode cX4_wrong 7 = .ok (.aload_n 0, 1) := by decide +kernel
theorem dX4_wrong_8 : decode cX4_wrong 8 = .ok (.getfield 121, 3) := by decide +kernel
theorem dX4_wrong_11 : decode cX4_wrong 11 = .ok (.istore_n 2, 1) := by decide +kernel
theorem dX4_wrong_12 : decode cX4_wrong 12 = .ok (.iload_n 2, 1) := by decide +kernel
theorem dX4_wrong_13 : decode cX4_wrong 13 = .ok (.aload_n 0, 1) := by decide +kernel
theorem dX4_wrong_14 : decode cX4_wrong 14 = .ok (.getfield 109, 3) := by decide +kernel
theorem dX4_wrong_17 : decode cX4_wrong 17 = .ok (.if_icmp .ge 47, 3) := by decide +kernel
theorem dX4_wrong_20 : decode cX4_wrong 20 = .ok (.iload_n 1, 1) := by decide +kernel
theorem dX4_wrong_21 : decode cX4_wrong 21 = .ok (.aload_n 0, 1) := by decide +kernel
theorem dX4_wrong_22 : decode cX4_wrong 22 = .ok (.aload_n 0, 1) := by decide +kernel
theorem dX4_wrong_23 : decode cX4_wrong 23 = .ok (.getfield 26, 3) := by decide +kernel
theorem dX4_wrong_26 : decode cX4_wrong 26 = .ok (.iload_n 2, 1) := by decide +kernel
theorem dX4_wrong_27 : decode cX4_wrong 27 = .ok (.iaload, 1) := by decide +kernel
theorem dX4_wrong_28 : decode cX4_wrong 28 = .ok (.aload_n 0, 1) := by decide +kernel
theorem dX4_wrong_29 : decode cX4_wrong 29 = .ok (.getfield 93, 3) := by decide +kernel
theorem dX4_wrong_32 : decode cX4_wrong 32 = .ok (.iload_n 2, 1) := by decide +kernel
theorem dX4_wrong_33 : decode cX4_wrong 33 = .ok (.iadd, 1) := by decide +kernel
theorem dX4_wrong_34 : decode cX4_wrong 34 = .ok (.aload_n 0, 1) := by decide +kernel
theorem dX4_wrong_35 : decode cX4_wrong 35 = .ok (.getfield 121, 3) := by decide +kernel
theorem dX4_wrong_38 : decode cX4_wrong 38 = .ok (.isub, 1) := by decide +kernel
theorem dX4_wrong_39 : decode cX4_wrong 39 = .ok (.invokevirtual 96, 3) := by decide +kernel
theorem dX4_wrong_42 : decode cX4_wrong 42 = .ok (.aload_n 0, 1) := by decide +kernel
theorem dX4_wrong_43 : decode cX4_wrong 43 = .ok (.getfield 26, 3) := by decide +kernel
theorem dX4_wrong_46 : decode cX4_wrong 46 = .ok (.iload_n 2, 1) := by decide +kernel
theorem dX4_wrong_47 : decode cX4_wrong 47 = .ok (.iaload, 1) := by decide +kernel
theorem dX4_wrong_48 : decode cX4_wrong 48 = .ok (.if_icmp .ne 7, 3) := by decide +kernel
theorem dX4_wrong_51 : decode cX4_wrong 51 = .ok (.iconst 0, 1) := by decide +kernel
theorem dX4_wrong_52 : decode cX4_wrong 52 = .ok (.goto 4, 3) := by decide +kernel
theorem dX4_wrong_55 : decode cX4_wrong 55 = .ok (.iconst 1, 1) := by decide +kernel
theorem dX4_wrong_56 : decode cX4_wrong 56 = .ok (.iadd, 1) := by decide +kernel
theorem dX4_wrong_57 : decode cX4_wrong 57 = .ok (.istore_n 1, 1) := by decide +kernel
theorem dX4_wrong_58 : decode cX4_wrong 58 = .ok (.iinc 2 1, 3) := by decide +kernel
theorem dX4_wrong_61 : decode cX4_wrong 61 = .ok (.goto (-49), 3) := by decide +kernel
theorem dX4_wrong_64 : decode cX4_wrong 64 = .ok (.iload_n 1, 1) := by decide +kernel
theorem dX4_wrong_65 : decode cX4_wrong 65 = .ok (.ireturn, 1) := by decide +kernel
theorem dX4_isShift_0 : decode cX4_isShift 0 = .ok (.iload_n 1, 1) := by decide +kernel
theorem dX4_isShift_1 : decode cX4_isShift 1 = .ok (.bipush 31, 2) := by decide +kernel
theorem dX4_isShift_3 : decode cX4_isShift 3 = .ok (.if_icmp .eq 26, 3) := by decide +kernel
theorem dX4_isShift_6 : decode cX4_isShift 6 = .ok (.iload_n 1, 1) := by decide +kernel
theorem dX4_isShift_7 : decode cX4_isShift 7 = .ok (.bipush 27, 2) := by decide +kernel
theorem dX4_isShift_9 : decode cX4_isShift 9 = .ok (.if_icmp .eq 20, 3) := by decide +kernel
theorem dX4_isShift_12 : decode cX4_isShift 12 = .ok (.iload_n 1, 1) := by decide +kernel
theorem dX4_isShift_13 : decode cX4_isShift 13 = .ok (.iconst 2, 1) := by decide +kernel
theorem dX4_isShift_14 : decode cX4_isShift 14 = .ok (.if_icmp .eq 15, 3) := by decide +kernel
theorem dX4_isShift_17 : decode cX4_isShift 17 = .ok (.iload_n 1, 1) := by decide +kernel
theorem dX4_isShift_18 : decode cX4_isShift 18 = .ok (.iconst 4, 1) := by decide +kernel
theorem dX4_isShift_19 : decode cX4_isShift 19 = .ok (.if_icmp .ne 14, 3) := by decide +kernel
theorem dX4_isShift_22 : decode cX4_isShift 22 = .ok (.aload_n 0, 1) := by decide +kernel
theorem dX4_isShift_23 : decode cX4_isShift 23 = .ok (.getfield 67, 3) := by decide +kernel
theorem dX4_isShift_26 : decode cX4_isShift 26 = .ok (.ifCond .eq 7, 3) := by decide +kernel
theorem dX4_isShift_29 : decode cX4_isShift 29 = .ok (.iconst 1, 1) := by decide +kernel
theorem dX4_isShift_30 : decode cX4_isShift 30 = .ok (.goto 4, 3) := by decide +kernel
theorem dX4_isShift_33 : decode cX4_isShift 33 = .ok (.iconst 0, 1) := by decide +kernel
theorem dX4_isShift_34 : decode cX4_isShift 34 = .ok (.ireturn, 1) := by decide +kernel
set_option maxRecDepth 20000 in
theorem ggX4_isIdle_X4_shiftAt : GoodIn wsX4_isIdle wsX4_shiftAt := goodIn_r _ [7, 1, 8, 9, 10, 6, 11, 12, 20, 21, 22, 23, 24, 25, 26, 27, 28, 29, 30, 31, 32, 33, 34, 35] (by decide +kernel) (by decide +kernel)
set_option maxRecDepth 20000 in
theorem gX4_isIdle_X4_shiftAt : GoodIn wsX4_isIdle (wsV RX4 115 RX4 yX4_shiftAt wsX4_shiftAt) := goodIn_app (goodIn_of _ (by decide +kernel)) ggX4_isIdle_X4_shiftAt
set_option maxRecDepth 20000 in
theorem ggX4_isIdle_X4_shift : GoodIn wsX4_isIdle wsX4_shift := goodIn_r _ [11, 12, 20, 21, 22, 23, 24, 25, 26, 27, 28, 29, 30, 31, 32, 33, 34, 35] (by decide +kernel) (by decide +kernel)
set_option maxRecDepth 20000 in
theorem gX4_isIdle_X4_shift : GoodIn wsX4_isIdle (wsV RX4 89 RX4 yX4_shift wsX4_shift) := goodIn_app (goodIn_of _ (by decide +kernel)) ggX4_isIdle_X4_shift
set_option maxRecDepth 20000 in
theorem ggX4_isIdle_X4_isShift : GoodIn wsX4_isIdle wsX4_isShift := goodIn_r _ [16, 12, 20, 21, 22, 23, 24, 25, 26, 27, 28, 29, 30, 31, 32, 33, 34, 35] (by decide +kernel) (by decide +kernel)
set_option maxRecDepth 20000 in
theorem gX4_isIdle_X4_isShift : GoodIn wsX4_isIdle (wsV RX4 135 RX4 yX4_isShift wsX4_isShift) := goodIn_app (goodIn_of _ (by decide +kernel)) ggX4_isIdle_X4_isShift
set_option maxRecDepth 20000 in
theorem ggX4_isIdle_X4_isType : GoodIn wsX4_isIdle wsX4_isType := goodIn_r _ [19] (by decide +kernel) (by decide +kernel)
set_option maxRecDepth 20000 in
theorem gX4_isIdle_X4_isType : GoodIn wsX4_isIdle (va_wsS RX4 36 yX4_isType wsX4_isType) := goodIn_app (goodIn_of _ (by decide +kernel)) ggX4_isIdle_X4_isType
theorem dX4_isIdle_0 : decode cX4_isIdle 0 = .ok (.aload_n 0, 1) := by decide +kernel
theorem dX4_isIdle_1 : decode cX4_isIdle 1 = .ok (.aload_n 0, 1) := by decide +kernel
theorem dX4_isIdle_2 : decode cX4_isIdle 2 = .ok (.iload_n 1, 1) := by decide +kernel
theorem dX4_isIdle_3 : decode cX4_isIdle 3 = .ok (.invokevirtual 115, 3) := by decide +kernel
theorem dX4_isIdle_6 : decode cX4_isIdle 6 = .ok (.aload_n 0, 1) := by decide +kernel
theorem dX4_isIdle_7 : decode cX4_isIdle 7 = .ok (.getfield 26, 3) := by decide +kernel
theorem dX4_isIdle_10 : decode cX4_isIdle 10 = .ok (.iload_n 1, 1) := by decide +kernel
theorem dX4_isIdle_11 : decode cX4_isIdle 11 = .ok (.iaload, 1) := by decide +kernel
theorem dX4_isIdle_12 : decode cX4_isIdle 12 = .ok (.invokevirtual 89, 3) := by decide +kernel
theorem dX4_isIdle_15 : decode cX4_isIdle 15 = .ok (.aload_n 0, 1) := by decide +kernel
theorem dX4_isIdle_16 : decode cX4_isIdle 16 = .ok (.iload_n 1, 1) := by decide +kernel
theorem dX4_isIdle_17 : decode cX4_isIdle 17 = .ok (.invokevirtual 115, 3) := by decide +kernel
theorem dX4_isIdle_20 : decode cX4_isIdle 20 = .ok (.if_icmp .ne 5, 3) := by decide +kernel
theorem dX4_isIdle_23 : decode cX4_isIdle 23 = .ok (.iconst 1, 1) := by decide +kernel
theorem dX4_isIdle_24 : decode cX4_isIdle 24 = .ok (.ireturn, 1) := by decide +kernel
theorem dX4_isIdle_25 : decode cX4_isIdle 25 = .ok (.iload_n 1, 1) := by decide +kernel
theorem dX4_isIdle_26 : decode cX4_isIdle 26 = .ok (.iconst 1, 1) := by decide +kernel
theorem dX4_isIdle_27 : decode cX4_isIdle 27 = .ok (.iadd, 1) := by decide +kernel
theorem dX4_isIdle_28 : decode cX4_isIdle 28 = .ok (.istore_n 2, 1) := by decide +kernel
theorem dX4_isIdle_29 : decode cX4_isIdle 29 = .ok (.iload_n 2, 1) := by decide +kernel
theorem dX4_isIdle_30 : decode cX4_isIdle 30 = .ok (.aload_n 0, 1) := by decide +kernel
theorem dX4_isIdle_31 : decode cX4_isIdle 31 = .ok (.getfield 109, 3) := by decide +kernel
theorem dX4_isIdle_34 : decode cX4_isIdle 34 = .ok (.if_icmp .ge 36, 3) := by decide +kernel
theorem dX4_isIdle_37 : decode cX4_isIdle 37 = .ok (.aload_n 0, 1) := by decide +kernel
theorem dX4_isIdle_38 : decode cX4_isIdle 38 = .ok (.aload_n 0, 1) := by decide +kernel
theorem dX4_isIdle_39 : decode cX4_isIdle 39 = .ok (.getfield 26, 3) := by decide +kernel
theorem dX4_isIdle_42 : decode cX4_isIdle 42 = .ok (.iload_n 2, 1) := by decide +kernel
theorem dX4_isIdle_43 : decode cX4_isIdle 43 = .ok (.iaload, 1) := by decide +kernel
theorem dX4_isIdle_44 : decode cX4_isIdle 44 = .ok (.invokevirtual 135, 3) := by decide +kernel
theorem dX4_isIdle_47 : decode cX4_isIdle 47 = .ok (.ifCond .ne 23, 3) := by decide +kernel
theorem dX4_isIdle_50 : decode cX4_isIdle 50 = .ok (.aload_n 0, 1) := by decide +kernel
theorem dX4_isIdle_51 : decode cX4_isIdle 51 = .ok (.getfield 26, 3) := by decide +kernel
theorem dX4_isIdle_54 : decode cX4_isIdle 54 = .ok (.iload_n 2, 1) := by decide +kernel
theorem dX4_isIdle_55 : decode cX4_isIdle 55 = .ok (.iaload, 1) := by decide +kernel
theorem dX4_isIdle_56 : decode cX4_isIdle 56 = .ok (.invokestatic 36, 3) := by decide +kernel
theorem dX4_isIdle_59 : decode cX4_isIdle 59 = .ok (.ifCond .eq 5, 3) := by decide +kernel
theorem dX4_isIdle_62 : decode cX4_isIdle 62 = .ok (.iconst 0, 1) := by decide +kernel
theorem dX4_isIdle_63 : decode cX4_isIdle 63 = .ok (.ireturn, 1) := by decide +kernel
theorem dX4_isIdle_64 : decode cX4_isIdle 64 = .ok (.iinc 2 1, 3) := by decide +kernel
theorem dX4_isIdle_67 : decode cX4_isIdle 67 = .ok (.goto (-38), 3) := by decide +kernel
theorem dX4_isIdle_70 : decode cX4_isIdle 70 = .ok (.iconst 1, 1) := by decide +kernel
theorem dX4_isIdle_71 : decode cX4_isIdle 71 = .ok (.ireturn, 1) := by decide +kernel
set_option maxRecDepth 20000 in
theorem ggX4_idle_X4_isIdle : GoodIn wsX4_idle wsX4_isIdle := goodIn_r _ [8, 3, 2, 9, 10, 11, 7, 12, 13, 14, 15, 16, 17, 18, 19, 20, 21, 22, 23, 24, 25, 26, 27, 28, 29, 30, 31, 32, 33, 34, 35, 36, 37, 38, 39, 40] (by decide +kernel) (by decide +kernel)
set_option maxRecDepth 20000 in
theorem gX4_idle_X4_isIdle : GoodIn wsX4_idle (wsV RX4 138 RX4 yX4_isIdle wsX4_isIdle) := goodIn_app (goodIn_of _ (by decide +kernel)) ggX4_idle_X4_isIdle
theorem dX4_idle_0 : decode cX4_idle 0 = .ok (.aload_n 0, 1) := by decide +kernel
theorem dX4_idle_1 : decode cX4_idle 1 = .ok (.iconst 0, 1) := by decide +kernel
theorem dX4_idle_2 : decode cX4_idle 2 = .ok (.putfield 29, 3) := by decide +kernel
theorem dX4_idle_5 : decode cX4_idle 5 = .ok (.iconst 0, 1) := by decide +kernel
theorem dX4_idle_6 : decode cX4_idle 6 = .ok (.istore_n 1, 1) := by decide +kernel
theorem dX4_idle_7 : decode cX4_idle 7 = .ok (.iconst 0, 1) := by decide +kernel
theorem dX4_idle_8 : decode cX4_idle 8 = .ok (.istore_n 2, 1) := by decide +kernel
theorem dX4_idle_9 : decode cX4_idle 9 = .ok (.iload_n 2, 1) := by decide +kernel
theorem dX4_idle_10 : decode cX4_idle 10 = .ok (.aload_n 0, 1) := by decide +kernel
theorem dX4_idle_11 : decode cX4_idle 11 = .ok (.getfield 109, 3) := by decide +kernel
theorem dX4_idle_14 : decode cX4_idle 14 = .ok (.if_icmp .ge 47, 3) := by decide +kernel
theorem dX4_idle_17 : decode cX4_idle 17 = .ok (.iload_n 1, 1) := by decide +kernel
theorem dX4_idle_18 : decode cX4_idle 18 = .ok (.aload_n 0, 1) := by decide +kernel
theorem dX4_idle_19 : decode cX4_idle 19 = .ok (.getfield 26, 3) := by decide +kernel
theorem dX4_idle_22 : decode cX4_idle 22 = .ok (.iload_n 2, 1) := by decide +kernel
theorem dX4_idle_23 : decode cX4_idle 23 = .ok (.iaload, 1) := by decide +kernel
theorem dX4_idle_24 : decode cX4_idle 24 = .ok (.bipush 31, 2) := by decide +kernel
theorem dX4_idle_26 : decode cX4_idle 26 = .ok (.if_icmp .eq 14, 3) := by decide +kernel
theorem dX4_idle_29 : decode cX4_idle 29 = .ok (.aload_n 0, 1) := by decide +kernel
theorem dX4_idle_30 : decode cX4_idle 30 = .ok (.getfield 26, 3) := by decide +kernel
theorem dX4_idle_33 : decode cX4_idle 33 = .ok (.iload_n 2, 1) := by decide +kernel
theorem dX4_idle_34 : decode cX4_idle 34 = .ok (.iaload, 1) := by decide +kernel
theorem dX4_idle_35 : decode cX4_idle 35 = .ok (.bipush 27, 2) := by decide +kernel
theorem dX4_idle_37 : decode cX4_idle 37 = .ok (.if_icmp .ne 15, 3) := by decide +kernel
theorem dX4_idle_40 : decode cX4_idle 40 = .ok (.aload_n 0, 1) := by decide +kernel
theorem dX4_idle_41 : decode cX4_idle 41 = .ok (.iload_n 2, 1) := by decide +kernel
theorem dX4_idle_42 : decode cX4_idle 42 = .ok (.invokevirtual 138, 3) := by decide +kernel
theorem dX4_idle_45 : decode cX4_idle 45 = .ok (.ifCond .eq 7, 3) := by decide +kernel
theorem dX4_idle_48 : decode cX4_idle 48 = .ok (.iconst 1, 1) := by decide +kernel
theorem dX4_idle_49 : decode cX4_idle 49 = .ok (.goto 4, 3) := by decide +kernel
theorem dX4_idle_52 : decode cX4_idle 52 = .ok (.iconst 0, 1) := by decide +kernel
theorem dX4_idle_53 : decode cX4_idle 53 = .ok (.iadd, 1) := by decide +kernel
theorem dX4_idle_54 : decode cX4_idle 54 = .ok (.istore_n 1, 1) := by decide +kernel
theorem dX4_idle_55 : decode cX4_idle 55 = .ok (.iinc 2 1, 3) := by decide +kernel
theorem dX4_idle_58 : decode cX4_idle 58 = .ok (.goto (-49), 3) := by decide +kernel
theorem dX4_idle_61 : decode cX4_idle 61 = .ok (.iload_n 1, 1) := by decide +kernel
theorem dX4_idle_62 : decode cX4_idle 62 = .ok (.ireturn, 1) := by decide +kernel
set_option maxRecDepth 20000 in
theorem ggX4_prints_X4_isPlace : GoodIn wsX4_prints wsX4_isPlace := goodIn_r _ [7, 8, 9, 10, 6, 11, 31, 32, 33, 34, 35, 36, 37, 38, 39, 40, 41, 42, 43, 44, 45, 46] (by decide +kernel) (by decide +kernel)
set_option maxRecDepth 20000 in
theorem gX4_prints_X4_isPlace : GoodIn wsX4_prints (wsV RX4 118 RX4 yX4_isPlace wsX4_isPlace) := goodIn_app (goodIn_of _ (by decide +kernel)) ggX4_prints_X4_isPlace
set_option maxRecDepth 20000 in
theorem ggX4_prints_X4_shiftAt : GoodIn wsX4_prints wsX4_shiftAt := goodIn_r _ [15, 2, 16, 17, 18, 6, 19, 20, 31, 32, 33, 34, 35, 36, 37, 38, 39, 40, 41, 42, 43, 44, 45, 46] (by decide +kernel) (by decide +kernel)
set_option maxRecDepth 20000 in
theorem gX4_prints_X4_shiftAt : GoodIn wsX4_prints (wsV RX4 115 RX4 yX4_shiftAt wsX4_shiftAt) := goodIn_app (goodIn_of _ (by decide +kernel)) ggX4_prints_X4_shiftAt
set_option maxRecDepth 20000 in
theorem ggX4_prints_X4_characterOf : GoodIn wsX4_prints wsX4_characterOf := goodIn_r _ [23, 24, 25, 6, 26] (by decide +kernel) (by decide +kernel)
set_option maxRecDepth 20000 in
theorem gX4_prints_X4_characterOf : GoodIn wsX4_prints (va_wsS RX4 53 yX4_characterOf wsX4_characterOf) := goodIn_app (goodIn_of _ (by decide +kernel)) ggX4_prints_X4_characterOf
set_option maxRecDepth 20000 in
theorem ggX4_prints_X4_fail : GoodIn wsX4_prints wsX4_fail := goodIn_r _ [30, 1, 31, 32, 33, 34, 35, 36, 37, 38, 39, 40, 41, 42, 43, 44, 45, 46] (by decide +kernel) (by decide +kernel)
set_option maxRecDepth 20000 in
theorem gX4_prints_X4_fail : GoodIn wsX4_prints (wsV RX4 47 RX4 yX4_fail wsX4_fail) := goodIn_app (goodIn_of _ (by decide +kernel)) ggX4_prints_X4_fail
theorem dX4_prints_0 : decode cX4_prints 0 = .ok (.aload_n 0, 1) := by decide +kernel
theorem dX4_prints_1 : decode cX4_prints 1 = .ok (.iconst 0, 1) := by decide +kernel
theorem dX4_prints_2 : decode cX4_prints 2 = .ok (.putfield 29, 3) := by decide +kernel
theorem dX4_prints_5 : decode cX4_prints 5 = .ok (.aload_n 0, 1) := by decide +kernel
theorem dX4_prints_6 : decode cX4_prints 6 = .ok (.iload_n 1, 1) := by decide +kernel
theorem dX4_prints_7 : decode cX4_prints 7 = .ok (.invokevirtual 118, 3) := by decide +kernel
theorem dX4_prints_10 : decode cX4_prints 10 = .ok (.ifCond .eq 20, 3) := by decide +kernel
theorem dX4_prints_13 : decode cX4_prints 13 = .ok (.aload_n 0, 1) := by decide +kernel
theorem dX4_prints_14 : decode cX4_prints 14 = .ok (.getfield 26, 3) := by decide +kernel
theorem dX4_prints_17 : decode cX4_prints 17 = .ok (.iload_n 1, 1) := by decide +kernel
theorem dX4_prints_18 : decode cX4_prints 18 = .ok (.iaload, 1) := by decide +kernel
theorem dX4_prints_19 : decode cX4_prints 19 = .ok (.aload_n 0, 1) := by decide +kernel
theorem dX4_prints_20 : decode cX4_prints 20 = .ok (.iload_n 1, 1) := by decide +kernel
theorem dX4_prints_21 : decode cX4_prints 21 = .ok (.invokevirtual 115, 3) := by decide +kernel
theorem dX4_prints_24 : decode cX4_prints 24 = .ok (.invokestatic 53, 3) := by decide +kernel
theorem dX4_prints_27 : decode cX4_prints 27 = .ok (.goto 8, 3) := by decide +kernel
theorem dX4_prints_30 : decode cX4_prints 30 = .ok (.aload_n 0, 1) := by decide +kernel
theorem dX4_prints_31 : decode cX4_prints 31 = .ok (.iconst 1, 1) := by decide +kernel
theorem dX4_prints_32 : decode cX4_prints 32 = .ok (.invokevirtual 47, 3) := by decide +kernel
theorem dX4_prints_35 : decode cX4_prints 35 = .ok (.ireturn, 1) := by decide +kernel
set_option maxRecDepth 20000 in
theorem ggX4_mean_X4_counted : GoodIn wsX4_mean wsX4_counted := goodIn_r _ [7, 2, 8, 9, 10, 11, 12, 13, 14, 15, 16, 17, 18, 19, 20, 21, 22, 23, 24, 25, 26, 27, 28, 29, 30, 31, 32, 33] (by decide +kernel) (by decide +kernel)
set_option maxRecDepth 20000 in
theorem gX4_mean_X4_counted : GoodIn wsX4_mean (wsV RX4 132 RX4 yX4_counted wsX4_counted) := goodIn_app (goodIn_of _ (by decide +kernel)) ggX4_mean_X4_counted
theorem dX4_mean_0 : decode cX4_mean 0 = .ok (.aload_n 0, 1) := by decide +kernel
theorem dX4_mean_1 : decode cX4_mean 1 = .ok (.iconst 0, 1) := by decide +kernel
theorem dX4_mean_2 : decode cX4_mean 2 = .ok (.putfield 29, 3) := by decide +kernel
theorem dX4_mean_5 : decode cX4_mean 5 = .ok (.aload_n 0, 1) := by decide +kernel
theorem dX4_mean_6 : decode cX4_mean 6 = .ok (.iconst 1, 1) := by decide +kernel
theorem dX4_mean_7 : decode cX4_mean 7 = .ok (.invokevirtual 132, 3) := by decide +kernel
theorem dX4_mean_10 : decode cX4_mean 10 = .ok (.i2d, 1) := by decide +kernel
theorem dX4_mean_11 : decode cX4_mean 11 = .ok (.aload_n 0, 1) := by decide +kernel
theorem dX4_mean_12 : decode cX4_mean 12 = .ok (.getfield 7, 3) := by decide +kernel
theorem dX4_mean_15 : decode cX4_mean 15 = .ok (.i2d, 1) := by decide +kernel
theorem dX4_mean_16 : decode cX4_mean 16 = .ok (.ddiv, 1) := by decide +kernel
theorem dX4_mean_17 : decode cX4_mean 17 = .ok (.dreturn, 1) := by decide +kernel
set_option maxRecDepth 20000 in
theorem ggX4_digest_X4_counted : GoodIn wsX4_digest wsX4_counted := goodIn_r _ [15, 6, 7, 16, 17, 9, 18, 19, 20, 21, 22, 23, 24, 25, 26, 27, 28, 29, 30, 31, 32, 33, 34, 35, 36, 37, 38, 39] (by decide +kernel) (by decide +kernel)
set_option maxRecDepth 20000 in
theorem gX4_digest_X4_counted : GoodIn wsX4_digest (wsV RX4 132 RX4 yX4_counted wsX4_counted) := goodIn_app (goodIn_of _ (by decide +kernel)) ggX4_digest_X4_counted
theorem dX4_digest_0 : decode cX4_digest 0 = .ok (.aload_n 0, 1) := by decide +kernel
theorem dX4_digest_1 : decode cX4_digest 1 = .ok (.iconst 0, 1) := by decide +kernel
theorem dX4_digest_2 : decode cX4_digest 2 = .ok (.putfield 29, 3) := by decide +kernel
theorem dX4_digest_5 : decode cX4_digest 5 = .ok (.ldc2_w 141, 3) := by decide +kernel
theorem dX4_digest_8 : decode cX4_digest 8 = .ok (.lstore_n 1, 1) := by decide +kernel
theorem dX4_digest_9 : decode cX4_digest 9 = .ok (.iconst 0, 1) := by decide +kernel
theorem dX4_digest_10 : decode cX4_digest 10 = .ok (.istore_n 3, 1) := by decide +kernel
theorem dX4_digest_11 : decode cX4_digest 11 = .ok (.iload_n 3, 1) := by decide +kernel
theorem dX4_digest_12 : decode cX4_digest 12 = .ok (.bipush 11, 2) := by decide +kernel
theorem dX4_digest_14 : decode cX4_digest 14 = .ok (.if_icmp .ge 22, 3) := by decide +kernel
theorem dX4_digest_17 : decode cX4_digest 17 = .ok (.lload_n 1, 1) := by decide +kernel
theorem dX4_digest_18 : decode cX4_digest 18 = .ok (.ldc2_w 143, 3) := by decide +kernel
theorem dX4_digest_21 : decode cX4_digest 21 = .ok (.lmul, 1) := by decide +kernel
theorem dX4_digest_22 : decode cX4_digest 22 = .ok (.aload_n 0, 1) := by decide +kernel
theorem dX4_digest_23 : decode cX4_digest 23 = .ok (.iload_n 3, 1) := by decide +kernel
theorem dX4_digest_24 : decode cX4_digest 24 = .ok (.invokevirtual 132, 3) := by decide +kernel
theorem dX4_digest_27 : decode cX4_digest 27 = .ok (.i2l, 1) := by decide +kernel
theorem dX4_digest_28 : decode cX4_digest 28 = .ok (.ladd, 1) := by decide +kernel
theorem dX4_digest_29 : decode cX4_digest 29 = .ok (.lstore_n 1, 1) := by decide +kernel
theorem dX4_digest_30 : decode cX4_digest 30 = .ok (.iinc 3 1, 3) := by decide +kernel
theorem dX4_digest_33 : decode cX4_digest 33 = .ok (.goto (-22), 3) := by decide +kernel
theorem dX4_digest_36 : decode cX4_digest 36 = .ok (.iconst 0, 1) := by decide +kernel
theorem dX4_digest_37 : decode cX4_digest 37 = .ok (.istore_n 3, 1) := by decide +kernel
theorem dX4_digest_38 : decode cX4_digest 38 = .ok (.iload_n 3, 1) := by decide +kernel
theorem dX4_digest_39 : decode cX4_digest 39 = .ok (.bipush 16, 2) := by decide +kernel
theorem dX4_digest_41 : decode cX4_digest 41 = .ok (.if_icmp .ge 37, 3) := by decide +kernel
theorem dX4_digest_44 : decode cX4_digest 44 = .ok (.lload_n 1, 1) := by decide +kernel
theorem dX4_digest_45 : decode cX4_digest 45 = .ok (.ldc2_w 143, 3) := by decide +kernel
theorem dX4_digest_48 : decode cX4_digest 48 = .ok (.lmul, 1) := by decide +kernel
theorem dX4_digest_49 : decode cX4_digest 49 = .ok (.aload_n 0, 1) := by decide +kernel
theorem dX4_digest_50 : decode cX4_digest 50 = .ok (.getfield 20, 3) := by decide +kernel
theorem dX4_digest_53 : decode cX4_digest 53 = .ok (.iload_n 3, 1) := by decide +kernel
theorem dX4_digest_54 : decode cX4_digest 54 = .ok (.iaload, 1) := by decide +kernel
theorem dX4_digest_55 : decode cX4_digest 55 = .ok (.i2l, 1) := by decide +kernel
theorem dX4_digest_56 : decode cX4_digest 56 = .ok (.ladd, 1) := by decide +kernel
theorem dX4_digest_57 : decode cX4_digest 57 = .ok (.lstore_n 1, 1) := by decide +kernel
theorem dX4_digest_58 : decode cX4_digest 58 = .ok (.lload_n 1, 1) := by decide +kernel
theorem dX4_digest_59 : decode cX4_digest 59 = .ok (.ldc2_w 143, 3) := by decide +kernel
theorem dX4_digest_62 : decode cX4_digest 62 = .ok (.lmul, 1) := by decide +kernel
theorem dX4_digest_63 : decode cX4_digest 63 = .ok (.aload_n 0, 1) := by decide +kernel
theorem dX4_digest_64 : decode cX4_digest 64 = .ok (.getfield 23, 3) := by decide +kernel
theorem dX4_digest_67 : decode cX4_digest 67 = .ok (.iload_n 3, 1) := by decide +kernel
theorem dX4_digest_68 : decode cX4_digest 68 = .ok (.iaload, 1) := by decide +kernel
theorem dX4_digest_69 : decode cX4_digest 69 = .ok (.i2l, 1) := by decide +kernel
theorem dX4_digest_70 : decode cX4_digest 70 = .ok (.ladd, 1) := by decide +kernel
theorem dX4_digest_71 : decode cX4_digest 71 = .ok (.lstore_n 1, 1) := by decide +kernel
theorem dX4_digest_72 : decode cX4_digest 72 = .ok (.iinc 3 1, 3) := by decide +kernel
theorem dX4_digest_75 : decode cX4_digest 75 = .ok (.goto (-37), 3) := by decide +kernel
theorem dX4_digest_78 : decode cX4_digest 78 = .ok (.iconst 0, 1) := by decide +kernel
theorem dX4_digest_79 : decode cX4_digest 79 = .ok (.istore_n 3, 1) := by decide +kernel
theorem dX4_digest_80 : decode cX4_digest 80 = .ok (.iload_n 3, 1) := by decide +kernel
theorem dX4_digest_81 : decode cX4_digest 81 = .ok (.aload_n 0, 1) := by decide +kernel
theorem dX4_digest_82 : decode cX4_digest 82 = .ok (.getfield 7, 3) := by decide +kernel
theorem dX4_digest_85 : decode cX4_digest 85 = .ok (.if_icmp .ge 63, 3) := by decide +kernel
theorem dX4_digest_88 : decode cX4_digest 88 = .ok (.lload_n 1, 1) := by decide +kernel
theorem dX4_digest_89 : decode cX4_digest 89 = .ok (.ldc2_w 143, 3) := by decide +kernel
theorem dX4_digest_92 : decode cX4_digest 92 = .ok (.lmul, 1) := by decide +kernel
theorem dX4_digest_93 : decode cX4_digest 93 = .ok (.aload_n 0, 1) := by decide +kernel
theorem dX4_digest_94 : decode cX4_digest 94 = .ok (.getfield 13, 3) := by decide +kernel
theorem dX4_digest_97 : decode cX4_digest 97 = .ok (.iload_n 3, 1) := by decide +kernel
theorem dX4_digest_98 : decode cX4_digest 98 = .ok (.iaload, 1) := by decide +kernel
theorem dX4_digest_99 : decode cX4_digest 99 = .ok (.i2l, 1) := by decide +kernel
theorem dX4_digest_100 : decode cX4_digest 100 = .ok (.ladd, 1) := by decide +kernel
theorem dX4_digest_101 : decode cX4_digest 101 = .ok (.lstore_n 1, 1) := by decide +kernel
theorem dX4_digest_102 : decode cX4_digest 102 = .ok (.iconst 0, 1) := by decide +kernel
theorem dX4_digest_103 : decode cX4_digest 103 = .ok (.istore 4, 2) := by decide +kernel
theorem dX4_digest_105 : decode cX4_digest 105 = .ok (.iload 4, 2) := by decide +kernel
theorem dX4_digest_107 : decode cX4_digest 107 = .ok (.aload_n 0, 1) := by decide +kernel
theorem dX4_digest_108 : decode cX4_digest 108 = .ok (.getfield 13, 3) := by decide +kernel
theorem dX4_digest_111 : decode cX4_digest 111 = .ok (.iload_n 3, 1) := by decide +kernel
theorem dX4_digest_112 : decode cX4_digest 112 = .ok (.iaload, 1) := by decide +kernel
theorem dX4_digest_113 : decode cX4_digest 113 = .ok (.if_icmp .ge 29, 3) := by decide +kernel
theorem dX4_digest_116 : decode cX4_digest 116 = .ok (.lload_n 1, 1) := by decide +kernel
theorem dX4_digest_117 : decode cX4_digest 117 = .ok (.ldc2_w 143, 3) := by decide +kernel
theorem dX4_digest_120 : decode cX4_digest 120 = .ok (.lmul, 1) := by decide +kernel
theorem dX4_digest_121 : decode cX4_digest 121 = .ok (.aload_n 0, 1) := by decide +kernel
theorem dX4_digest_122 : decode cX4_digest 122 = .ok (.getfield 17, 3) := by decide +kernel
theorem dX4_digest_125 : decode cX4_digest 125 = .ok (.bipush 40, 2) := by decide +kernel
theorem dX4_digest_127 : decode cX4_digest 127 = .ok (.iload_n 3, 1) := by decide +kernel
theorem dX4_digest_128 : decode cX4_digest 128 = .ok (.imul, 1) := by decide +kernel
theorem dX4_digest_129 : decode cX4_digest 129 = .ok (.iload 4, 2) := by decide +kernel
theorem dX4_digest_131 : decode cX4_digest 131 = .ok (.iadd, 1) := by decide +kernel
theorem dX4_digest_132 : decode cX4_digest 132 = .ok (.iaload, 1) := by decide +kernel
theorem dX4_digest_133 : decode cX4_digest 133 = .ok (.i2l, 1) := by decide +kernel
theorem dX4_digest_134 : decode cX4_digest 134 = .ok (.ladd, 1) := by decide +kernel
theorem dX4_digest_135 : decode cX4_digest 135 = .ok (.lstore_n 1, 1) := by decide +kernel
theorem dX4_digest_136 : decode cX4_digest 136 = .ok (.iinc 4 1, 3) := by decide +kernel
theorem dX4_digest_139 : decode cX4_digest 139 = .ok (.goto (-34), 3) := by decide +kernel
theorem dX4_digest_142 : decode cX4_digest 142 = .ok (.iinc 3 1, 3) := by decide +kernel
theorem dX4_digest_145 : decode cX4_digest 145 = .ok (.goto (-65), 3) := by decide +kernel
theorem dX4_digest_148 : decode cX4_digest 148 = .ok (.iconst 0, 1) := by decide +kernel
theorem dX4_digest_149 : decode cX4_digest 149 = .ok (.istore_n 3, 1) := by decide +kernel
theorem dX4_digest_150 : decode cX4_digest 150 = .ok (.iload_n 3, 1) := by decide +kernel
theorem dX4_digest_151 : decode cX4_digest 151 = .ok (.aload_n 0, 1) := by decide +kernel
theorem dX4_digest_152 : decode cX4_digest 152 = .ok (.getfield 109, 3) := by decide +kernel
theorem dX4_digest_155 : decode cX4_digest 155 = .ok (.if_icmp .ge 23, 3) := by decide +kernel
theorem dX4_digest_158 : decode cX4_digest 158 = .ok (.lload_n 1, 1) := by decide +kernel
theorem dX4_digest_159 : decode cX4_digest 159 = .ok (.ldc2_w 143, 3) := by decide +kernel
theorem dX4_digest_162 : decode cX4_digest 162 = .ok (.lmul, 1) := by decide +kernel
theorem dX4_digest_163 : decode cX4_digest 163 = .ok (.aload_n 0, 1) := by decide +kernel
theorem dX4_digest_164 : decode cX4_digest 164 = .ok (.getfield 26, 3) := by decide +kernel
theorem dX4_digest_167 : decode cX4_digest 167 = .ok (.iload_n 3, 1) := by decide +kernel
theorem dX4_digest_168 : decode cX4_digest 168 = .ok (.iaload, 1) := by decide +kernel
theorem dX4_digest_169 : decode cX4_digest 169 = .ok (.i2l, 1) := by decide +kernel
theorem dX4_digest_170 : decode cX4_digest 170 = .ok (.ladd, 1) := by decide +kernel
theorem dX4_digest_171 : decode cX4_digest 171 = .ok (.lstore_n 1, 1) := by decide +kernel
theorem dX4_digest_172 : decode cX4_digest 172 = .ok (.iinc 3 1, 3) := by decide +kernel
theorem dX4_digest_175 : decode cX4_digest 175 = .ok (.goto (-25), 3) := by decide +kernel
theorem dX4_digest_178 : decode cX4_digest 178 = .ok (.lload_n 1, 1) := by decide +kernel
theorem dX4_digest_179 : decode cX4_digest 179 = .ok (.lreturn, 1) := by decide +kernel
theorem dJ6_bitCount_0f7a4_0 : decode cJ6_bitCount_0f7a4 0 = .ok (.iload_n 0, 1) := by decide +kernel
theorem dJ6_bitCount_0f7a4_1 : decode cJ6_bitCount_0f7a4 1 = .ok (.iload_n 0, 1) := by decide +kernel
theorem dJ6_bitCount_0f7a4_2 : decode cJ6_bitCount_0f7a4 2 = .ok (.iconst 1, 1) := by decide +kernel
theorem dJ6_bitCount_0f7a4_3 : decode cJ6_bitCount_0f7a4 3 = .ok (.iushr, 1) := by decide +kernel
theorem dJ6_bitCount_0f7a4_4 : decode cJ6_bitCount_0f7a4 4 = .ok (.ldc_w 265, 3) := by decide +kernel
theorem dJ6_bitCount_0f7a4_7 : decode cJ6_bitCount_0f7a4 7 = .ok (.iand, 1) := by decide +kernel
theorem dJ6_bitCount_0f7a4_8 : decode cJ6_bitCount_0f7a4 8 = .ok (.isub, 1) := by decide +kernel
theorem dJ6_bitCount_0f7a4_9 : decode cJ6_bitCount_0f7a4 9 = .ok (.istore_n 0, 1) := by decide +kernel
theorem dJ6_bitCount_0f7a4_10 : decode cJ6_bitCount_0f7a4 10 = .ok (.iload_n 0, 1) := by decide +kernel
theorem dJ6_bitCount_0f7a4_11 : decode cJ6_bitCount_0f7a4 11 = .ok (.ldc_w 266, 3) := by decide +kernel
theorem dJ6_bitCount_0f7a4_14 : decode cJ6_bitCount_0f7a4 14 = .ok (.iand, 1) := by decide +kernel
theorem dJ6_bitCount_0f7a4_15 : decode cJ6_bitCount_0f7a4 15 = .ok (.iload_n 0, 1) := by decide +kernel
theorem dJ6_bitCount_0f7a4_16 : decode cJ6_bitCount_0f7a4 16 = .ok (.iconst 2, 1) := by decide +kernel
theorem dJ6_bitCount_0f7a4_17 : decode cJ6_bitCount_0f7a4 17 = .ok (.iushr, 1) := by decide +kernel
theorem dJ6_bitCount_0f7a4_18 : decode cJ6_bitCount_0f7a4 18 = .ok (.ldc_w 266, 3) := by decide +kernel
theorem dJ6_bitCount_0f7a4_21 : decode cJ6_bitCount_0f7a4 21 = .ok (.iand, 1) := by decide +kernel
theorem dJ6_bitCount_0f7a4_22 : decode cJ6_bitCount_0f7a4 22 = .ok (.iadd, 1) := by decide +kernel
theorem dJ6_bitCount_0f7a4_23 : decode cJ6_bitCount_0f7a4 23 = .ok (.istore_n 0, 1) := by decide +kernel
theorem dJ6_bitCount_0f7a4_24 : decode cJ6_bitCount_0f7a4 24 = .ok (.iload_n 0, 1) := by decide +kernel
theorem dJ6_bitCount_0f7a4_25 : decode cJ6_bitCount_0f7a4 25 = .ok (.iload_n 0, 1) := by decide +kernel
theorem dJ6_bitCount_0f7a4_26 : decode cJ6_bitCount_0f7a4 26 = .ok (.iconst 4, 1) := by decide +kernel
theorem dJ6_bitCount_0f7a4_27 : decode cJ6_bitCount_0f7a4 27 = .ok (.iushr, 1) := by decide +kernel
theorem dJ6_bitCount_0f7a4_28 : decode cJ6_bitCount_0f7a4 28 = .ok (.iadd, 1) := by decide +kernel
theorem dJ6_bitCount_0f7a4_29 : decode cJ6_bitCount_0f7a4 29 = .ok (.ldc_w 267, 3) := by decide +kernel
theorem dJ6_bitCount_0f7a4_32 : decode cJ6_bitCount_0f7a4 32 = .ok (.iand, 1) := by decide +kernel
theorem dJ6_bitCount_0f7a4_33 : decode cJ6_bitCount_0f7a4 33 = .ok (.istore_n 0, 1) := by decide +kernel
theorem dJ6_bitCount_0f7a4_34 : decode cJ6_bitCount_0f7a4 34 = .ok (.iload_n 0, 1) := by decide +kernel
theorem dJ6_bitCount_0f7a4_35 : decode cJ6_bitCount_0f7a4 35 = .ok (.iload_n 0, 1) := by decide +kernel
theorem dJ6_bitCount_0f7a4_36 : decode cJ6_bitCount_0f7a4 36 = .ok (.bipush 8, 2) := by decide +kernel
theorem dJ6_bitCount_0f7a4_38 : decode cJ6_bitCount_0f7a4 38 = .ok (.iushr, 1) := by decide +kernel
theorem dJ6_bitCount_0f7a4_39 : decode cJ6_bitCount_0f7a4 39 = .ok (.iadd, 1) := by decide +kernel
theorem dJ6_bitCount_0f7a4_40 : decode cJ6_bitCount_0f7a4 40 = .ok (.istore_n 0, 1) := by decide +kernel
theorem dJ6_bitCount_0f7a4_41 : decode cJ6_bitCount_0f7a4 41 = .ok (.iload_n 0, 1) := by decide +kernel
theorem dJ6_bitCount_0f7a4_42 : decode cJ6_bitCount_0f7a4 42 = .ok (.iload_n 0, 1) := by decide +kernel
theorem dJ6_bitCount_0f7a4_43 : decode cJ6_bitCount_0f7a4 43 = .ok (.bipush 16, 2) := by decide +kernel
theorem dJ6_bitCount_0f7a4_45 : decode cJ6_bitCount_0f7a4 45 = .ok (.iushr, 1) := by decide +kernel
theorem dJ6_bitCount_0f7a4_46 : decode cJ6_bitCount_0f7a4 46 = .ok (.iadd, 1) := by decide +kernel
theorem dJ6_bitCount_0f7a4_47 : decode cJ6_bitCount_0f7a4 47 = .ok (.istore_n 0, 1) := by decide +kernel
theorem dJ6_bitCount_0f7a4_48 : decode cJ6_bitCount_0f7a4 48 = .ok (.iload_n 0, 1) := by decide +kernel
theorem dJ6_bitCount_0f7a4_49 : decode cJ6_bitCount_0f7a4 49 = .ok (.bipush 63, 2) := by decide +kernel
theorem dJ6_bitCount_0f7a4_51 : decode cJ6_bitCount_0f7a4 51 = .ok (.iand, 1) := by decide +kernel
theorem dJ6_bitCount_0f7a4_52 : decode cJ6_bitCount_0f7a4 52 = .ok (.ireturn, 1) := by decide +kernel
theorem dJ9_min_7cf53_0 : decode cJ9_min_7cf53 0 = .ok (.iload_n 0, 1) := by decide +kernel
theorem dJ9_min_7cf53_1 : decode cJ9_min_7cf53 1 = .ok (.iload_n 1, 1) := by decide +kernel
theorem dJ9_min_7cf53_2 : decode cJ9_min_7cf53 2 = .ok (.if_icmp .gt 7, 3) := by decide +kernel
theorem dJ9_min_7cf53_5 : decode cJ9_min_7cf53 5 = .ok (.iload_n 0, 1) := by decide +kernel
theorem dJ9_min_7cf53_6 : decode cJ9_min_7cf53 6 = .ok (.goto 4, 3) := by decide +kernel
theorem dJ9_min_7cf53_9 : decode cJ9_min_7cf53 9 = .ok (.iload_n 1, 1) := by decide +kernel
theorem dJ9_min_7cf53_10 : decode cJ9_min_7cf53 10 = .ok (.ireturn, 1) := by decide +kernel
set_option maxRecDepth 20000 in
theorem ggL_code_X3_code : GoodIn wsL_code wsX3_code := goodIn_ca (goodIn_r _ [6, 7, 8, 9, 10, 5, 11, 12, 13, 14, 15] (by decide +kernel) (by decide +kernel)) (goodIn_sub (fun _ h => List.mem_cons_of_mem _ (List.mem_append_right _ h)) (by decide +kernel))
set_option maxRecDepth 20000 in
theorem gL_code_X3_code : GoodIn wsL_code (wsV RL 7 RX3 yX3_code wsX3_code) := goodIn_app (goodIn_of _ (by decide +kernel)) ggL_code_X3_code
end
section
theorem dL_code_0 : decode cL_code 0 = .ok (.aload_n 2, 1) := by decide +kernel
theorem dL_code_1 : decode cL_code 1 = .ok (.iconst 0, 1) := by decide +kernel
theorem dL_code_2 : decode cL_code 2 = .ok (.aload_n 0, 1) := by decide +kernel
theorem dL_code_3 : decode cL_code 3 = .ok (.iload_n 1, 1) := by decide +kernel
theorem dL_code_4 : decode cL_code 4 = .ok (.invokevirtual 7, 3) := by decide +kernel
theorem dL_code_7 : decode cL_code 7 = .ok (.i2l, 1) := by decide +kernel
theorem dL_code_8 : decode cL_code 8 = .ok (.lastore, 1) := by decide +kernel
theorem dL_code_9 : decode cL_code 9 = .ok (.goto 6, 3) := by decide +kernel
theorem dL_code_12 : decode cL_code 12 = .ok (.astore_n 3, 1) := by decide +kernel
theorem dL_code_13 : decode cL_code 13 = .ok (.iconst 1, 1) := by decide +kernel
theorem dL_code_14 : decode cL_code 14 = .ok (.ireturn, 1) := by decide +kernel
theorem dL_code_15 : decode cL_code 15 = .ok (.iconst 0, 1) := by decide +kernel
theorem dL_code_16 : decode cL_code 16 = .ok (.ireturn, 1) := by decide +kernel
set_option maxRecDepth 20000 in
theorem ggL_character_X3_character : GoodIn wsL_character wsX3_character := goodIn_ca (goodIn_r _ [6, 7, 8, 9, 10, 5, 11, 12, 13, 14, 15, 16, 17, 18, 19, 20, 21] (by decide +kernel) (by decide +kernel)) (goodIn_sub (fun _ h => List.mem_cons_of_mem _ (List.mem_append_right _ h)) (by decide +kernel))
set_option maxRecDepth 20000 in
theorem gL_character_X3_character : GoodIn wsL_character (wsV RL 15 RX3 yX3_character wsX3_character) := goodIn_app (goodIn_of _ (by decide +kernel)) ggL_character_X3_character
theorem dL_character_0 : decode cL_character 0 = .ok (.aload_n 3, 1) := by decide +kernel
theorem dL_character_1 : decode cL_character 1 = .ok (.iconst 0, 1) := by decide +kernel
theorem dL_character_2 : decode cL_character 2 = .ok (.aload_n 0, 1) := by decide +kernel
theorem dL_character_3 : decode cL_character 3 = .ok (.iload_n 1, 1) := by decide +kernel
theorem dL_character_4 : decode cL_character 4 = .ok (.iload_n 2, 1) := by decide +kernel
theorem dL_character_5 : decode cL_character 5 = .ok (.invokevirtual 15, 3) := by decide +kernel
theorem dL_character_8 : decode cL_character 8 = .ok (.i2l, 1) := by decide +kernel
theorem dL_character_9 : decode cL_character 9 = .ok (.lastore, 1) := by decide +kernel
theorem dL_character_10 : decode cL_character 10 = .ok (.goto 7, 3) := by decide +kernel
theorem dL_character_13 : decode cL_character 13 = .ok (.astore 4, 2) := by decide +kernel
theorem dL_character_15 : decode cL_character 15 = .ok (.iconst 1, 1) := by decide +kernel
theorem dL_character_16 : decode cL_character 16 = .ok (.ireturn, 1) := by decide +kernel
theorem dL_character_17 : decode cL_character 17 = .ok (.iconst 0, 1) := by decide +kernel
theorem dL_character_18 : decode cL_character 18 = .ok (.ireturn, 1) := by decide +kernel
set_option maxRecDepth 20000 in
theorem ggL_apart_X3_apart : GoodIn wsL_apart wsX3_apart := goodIn_ca (goodIn_r _ [6, 7, 8, 9, 10, 5, 11, 12, 13, 14, 15, 16, 17, 18, 19, 20, 21, 22] (by decide +kernel) (by decide +kernel)) (goodIn_sub (fun _ h => List.mem_cons_of_mem _ (List.mem_append_right _ h)) (by decide +kernel))
set_option maxRecDepth 20000 in
theorem gL_apart_X3_apart : GoodIn wsL_apart (wsV RL 19 RX3 yX3_apart wsX3_apart) := goodIn_app (goodIn_of _ (by decide +kernel)) ggL_apart_X3_apart
theorem dL_apart_0 : decode cL_apart 0 = .ok (.aload_n 3, 1) := by decide +kernel
theorem dL_apart_1 : decode cL_apart 1 = .ok (.iconst 0, 1) := by decide +kernel
theorem dL_apart_2 : decode cL_apart 2 = .ok (.aload_n 0, 1) := by decide +kernel
theorem dL_apart_3 : decode cL_apart 3 = .ok (.iload_n 1, 1) := by decide +kernel
theorem dL_apart_4 : decode cL_apart 4 = .ok (.iload_n 2, 1) := by decide +kernel
theorem dL_apart_5 : decode cL_apart 5 = .ok (.invokevirtual 19, 3) := by decide +kernel
theorem dL_apart_8 : decode cL_apart 8 = .ok (.i2l, 1) := by decide +kernel
theorem dL_apart_9 : decode cL_apart 9 = .ok (.lastore, 1) := by decide +kernel
theorem dL_apart_10 : decode cL_apart 10 = .ok (.goto 7, 3) := by decide +kernel
theorem dL_apart_13 : decode cL_apart 13 = .ok (.astore 4, 2) := by decide +kernel
theorem dL_apart_15 : decode cL_apart 15 = .ok (.iconst 1, 1) := by decide +kernel
theorem dL_apart_16 : decode cL_apart 16 = .ok (.ireturn, 1) := by decide +kernel
theorem dL_apart_17 : decode cL_apart 17 = .ok (.iconst 0, 1) := by decide +kernel
theorem dL_apart_18 : decode cL_apart 18 = .ok (.ireturn, 1) := by decide +kernel
set_option maxRecDepth 20000 in
theorem ggL_doubts_X3_doubts : GoodIn wsL_doubts wsX3_doubts := goodIn_ca (goodIn_r _ [6, 7, 8, 9, 10, 11, 5, 12, 13, 14, 15, 16, 17, 18, 19, 20, 21, 22, 23, 24, 25, 26, 27, 28, 29, 30, 31, 32] (by decide +kernel) (by decide +kernel)) (goodIn_sub (fun _ h => List.mem_cons_of_mem _ (List.mem_append_right _ h)) (by decide +kernel))
set_option maxRecDepth 20000 in
theorem gL_doubts_X3_doubts : GoodIn wsL_doubts (wsV RL 23 RX3 yX3_doubts wsX3_doubts) := goodIn_app (goodIn_of _ (by decide +kernel)) ggL_doubts_X3_doubts
theorem dL_doubts_0 : decode cL_doubts 0 = .ok (.aload_n 2, 1) := by decide +kernel
theorem dL_doubts_1 : decode cL_doubts 1 = .ok (.iconst 0, 1) := by decide +kernel
theorem dL_doubts_2 : decode cL_doubts 2 = .ok (.aload_n 0, 1) := by decide +kernel
theorem dL_doubts_3 : decode cL_doubts 3 = .ok (.iload_n 1, 1) := by decide +kernel
theorem dL_doubts_4 : decode cL_doubts 4 = .ok (.invokevirtual 23, 3) := by decide +kernel
theorem dL_doubts_7 : decode cL_doubts 7 = .ok (.i2l, 1) := by decide +kernel
theorem dL_doubts_8 : decode cL_doubts 8 = .ok (.lastore, 1) := by decide +kernel
theorem dL_doubts_9 : decode cL_doubts 9 = .ok (.goto 6, 3) := by decide +kernel
theorem dL_doubts_12 : decode cL_doubts 12 = .ok (.astore_n 3, 1) := by decide +kernel
theorem dL_doubts_13 : decode cL_doubts 13 = .ok (.iconst 1, 1) := by decide +kernel
theorem dL_doubts_14 : decode cL_doubts 14 = .ok (.ireturn, 1) := by decide +kernel
theorem dL_doubts_15 : decode cL_doubts 15 = .ok (.iconst 0, 1) := by decide +kernel
theorem dL_doubts_16 : decode cL_doubts 16 = .ok (.ireturn, 1) := by decide +kernel
set_option maxRecDepth 20000 in
theorem ggL_setLine_X3_setLine : GoodIn wsL_setLine wsX3_setLine := goodIn_ca (goodIn_ca (goodIn_r _ [7, 8, 9, 10, 11, 12, 13, 14, 6, 15, 16, 17, 18, 19, 20, 21, 22, 23, 24, 25, 26, 27, 28, 29, 30, 31, 32, 33, 34, 35, 36, 37, 38, 39, 40, 41, 42, 43, 44, 45, 46, 47, 48, 49, 50, 51, 52, 53, 54, 55, 56] (by decide +kernel) (by decide +kernel)) (goodIn_sub (fun _ h => List.mem_cons_of_mem _ (List.mem_append_left _ (List.mem_append_right _ h))) (by decide +kernel))) (goodIn_sub (fun _ h => List.mem_cons_of_mem _ (List.mem_append_right _ h)) (by decide +kernel))
set_option maxRecDepth 20000 in
theorem gL_setLine_X3_setLine : GoodIn wsL_setLine (wsV RL 26 RX3 yX3_setLine wsX3_setLine) := goodIn_app (goodIn_of _ (by decide +kernel)) ggL_setLine_X3_setLine
theorem dL_setLine_0 : decode cL_setLine 0 = .ok (.aload 4, 2) := by decide +kernel
theorem dL_setLine_2 : decode cL_setLine 2 = .ok (.iconst 0, 1) := by decide +kernel
theorem dL_setLine_3 : decode cL_setLine 3 = .ok (.aload_n 0, 1) := by decide +kernel
theorem dL_setLine_4 : decode cL_setLine 4 = .ok (.iload_n 1, 1) := by decide +kernel
theorem dL_setLine_5 : decode cL_setLine 5 = .ok (.iload_n 2, 1) := by decide +kernel
theorem dL_setLine_6 : decode cL_setLine 6 = .ok (.iload_n 3, 1) := by decide +kernel
theorem dL_setLine_7 : decode cL_setLine 7 = .ok (.invokevirtual 26, 3) := by decide +kernel
theorem dL_setLine_10 : decode cL_setLine 10 = .ok (.i2l, 1) := by decide +kernel
theorem dL_setLine_11 : decode cL_setLine 11 = .ok (.lastore, 1) := by decide +kernel
theorem dL_setLine_12 : decode cL_setLine 12 = .ok (.goto 11, 3) := by decide +kernel
theorem dL_setLine_15 : decode cL_setLine 15 = .ok (.astore 5, 2) := by decide +kernel
theorem dL_setLine_17 : decode cL_setLine 17 = .ok (.iconst 1, 1) := by decide +kernel
theorem dL_setLine_18 : decode cL_setLine 18 = .ok (.ireturn, 1) := by decide +kernel
theorem dL_setLine_19 : decode cL_setLine 19 = .ok (.astore 5, 2) := by decide +kernel
theorem dL_setLine_21 : decode cL_setLine 21 = .ok (.iconst 2, 1) := by decide +kernel
theorem dL_setLine_22 : decode cL_setLine 22 = .ok (.ireturn, 1) := by decide +kernel
theorem dL_setLine_23 : decode cL_setLine 23 = .ok (.iconst 0, 1) := by decide +kernel
theorem dL_setLine_24 : decode cL_setLine 24 = .ok (.ireturn, 1) := by decide +kernel
set_option maxRecDepth 20000 in
theorem ggL_setPlay_X3_setPlay : GoodIn wsL_setPlay wsX3_setPlay := goodIn_ca (goodIn_r _ [6, 7, 8, 9, 10, 11, 12, 13, 14, 15, 16, 17, 18, 19, 20, 21, 22, 23, 24, 25, 26, 27, 28, 29, 30, 31, 32] (by decide +kernel) (by decide +kernel)) (goodIn_sub (fun _ h => List.mem_cons_of_mem _ (List.mem_append_right _ h)) (by decide +kernel))
set_option maxRecDepth 20000 in
theorem gL_setPlay_X3_setPlay : GoodIn wsL_setPlay (wsV RL 32 RX3 yX3_setPlay wsX3_setPlay) := goodIn_app (goodIn_of _ (by decide +kernel)) ggL_setPlay_X3_setPlay
theorem dL_setPlay_0 : decode cL_setPlay 0 = .ok (.aload_n 2, 1) := by decide +kernel
theorem dL_setPlay_1 : decode cL_setPlay 1 = .ok (.iconst 0, 1) := by decide +kernel
theorem dL_setPlay_2 : decode cL_setPlay 2 = .ok (.aload_n 0, 1) := by decide +kernel
theorem dL_setPlay_3 : decode cL_setPlay 3 = .ok (.iload_n 1, 1) := by decide +kernel
theorem dL_setPlay_4 : decode cL_setPlay 4 = .ok (.invokevirtual 32, 3) := by decide +kernel
theorem dL_setPlay_7 : decode cL_setPlay 7 = .ok (.i2l, 1) := by decide +kernel
theorem dL_setPlay_8 : decode cL_setPlay 8 = .ok (.lastore, 1) := by decide +kernel
theorem dL_setPlay_9 : decode cL_setPlay 9 = .ok (.goto 6, 3) := by decide +kernel
theorem dL_setPlay_12 : decode cL_setPlay 12 = .ok (.astore_n 3, 1) := by decide +kernel
theorem dL_setPlay_13 : decode cL_setPlay 13 = .ok (.iconst 1, 1) := by decide +kernel
theorem dL_setPlay_14 : decode cL_setPlay 14 = .ok (.ireturn, 1) := by decide +kernel
theorem dL_setPlay_15 : decode cL_setPlay 15 = .ok (.iconst 0, 1) := by decide +kernel
theorem dL_setPlay_16 : decode cL_setPlay 16 = .ok (.ireturn, 1) := by decide +kernel
set_option maxRecDepth 20000 in
theorem ggL_receive_X3_receive : GoodIn wsL_receive wsX3_receive := goodIn_ca (goodIn_r _ [6, 7, 8, 9, 10, 5, 11, 12, 13, 14, 15, 16, 17, 18, 19, 20, 21, 22, 23, 24, 25, 26, 27, 28, 29, 30, 31, 32, 33, 34, 35, 36, 37, 38, 39, 40, 41, 42, 43, 44, 45, 46, 47, 48, 49, 50, 51, 52, 53, 54, 55, 56, 57, 58, 59, 60, 61, 62, 63, 64, 65, 66, 67, 68, 69, 70, 71, 72, 73, 74, 75, 76, 77, 78, 79, 80, 81, 82, 83, 84, 85, 86, 87, 88, 89, 90, 91, 92, 93, 94, 95, 96, 97, 98, 99, 100, 101, 102, 103, 104, 105, 106] (by decide +kernel) (by decide +kernel)) (goodIn_sub (fun _ h => List.mem_cons_of_mem _ (List.mem_append_right _ h)) (by decide +kernel))
set_option maxRecDepth 20000 in
theorem gL_receive_X3_receive : GoodIn wsL_receive (wsV RL 35 RX3 yX3_receive wsX3_receive) := goodIn_app (goodIn_of _ (by decide +kernel)) ggL_receive_X3_receive
theorem dL_receive_0 : decode cL_receive 0 = .ok (.aload_n 2, 1) := by decide +kernel
theorem dL_receive_1 : decode cL_receive 1 = .ok (.iconst 0, 1) := by decide +kernel
theorem dL_receive_2 : decode cL_receive 2 = .ok (.aload_n 0, 1) := by decide +kernel
theorem dL_receive_3 : decode cL_receive 3 = .ok (.iload_n 1, 1) := by decide +kernel
theorem dL_receive_4 : decode cL_receive 4 = .ok (.invokevirtual 35, 3) := by decide +kernel
theorem dL_receive_7 : decode cL_receive 7 = .ok (.i2l, 1) := by decide +kernel
theorem dL_receive_8 : decode cL_receive 8 = .ok (.lastore, 1) := by decide +kernel
theorem dL_receive_9 : decode cL_receive 9 = .ok (.goto 6, 3) := by decide +kernel
theorem dL_receive_12 : decode cL_receive 12 = .ok (.astore_n 3, 1) := by decide +kernel
theorem dL_receive_13 : decode cL_receive 13 = .ok (.iconst 1, 1) := by decide +kernel
theorem dL_receive_14 : decode cL_receive 14 = .ok (.ireturn, 1) := by decide +kernel
theorem dL_receive_15 : decode cL_receive 15 = .ok (.iconst 0, 1) := by decide +kernel
theorem dL_receive_16 : decode cL_receive 16 = .ok (.ireturn, 1) := by decide +kernel
set_option maxRecDepth 20000 in
theorem ggL_punch_X3_punch : GoodIn wsL_punch wsX3_punch := goodIn_ca (goodIn_ca (goodIn_r _ [7, 8, 9, 10, 11, 12, 13, 14, 6, 15, 16, 17, 18, 19, 20, 21, 22, 23, 24, 25, 26, 27, 28, 29, 30, 31, 32, 33, 34, 35, 36, 37, 38, 39, 40, 41, 42] (by decide +kernel) (by decide +kernel)) (goodIn_sub (fun _ h => List.mem_cons_of_mem _ (List.mem_append_left _ (List.mem_append_right _ h))) (by decide +kernel))) (goodIn_sub (fun _ h => List.mem_cons_of_mem _ (List.mem_append_right _ h)) (by decide +kernel))
set_option maxRecDepth 20000 in
theorem gL_punch_X3_punch : GoodIn wsL_punch (wsV RL 38 RX3 yX3_punch wsX3_punch) := goodIn_app (goodIn_of _ (by decide +kernel)) ggL_punch_X3_punch
theorem dL_punch_0 : decode cL_punch 0 = .ok (.aload_n 2, 1) := by decide +kernel
theorem dL_punch_1 : decode cL_punch 1 = .ok (.iconst 0, 1) := by decide +kernel
theorem dL_punch_2 : decode cL_punch 2 = .ok (.aload_n 0, 1) := by decide +kernel
theorem dL_punch_3 : decode cL_punch 3 = .ok (.iload_n 1, 1) := by decide +kernel
theorem dL_punch_4 : decode cL_punch 4 = .ok (.invokevirtual 38, 3) := by decide +kernel
theorem dL_punch_7 : decode cL_punch 7 = .ok (.i2l, 1) := by decide +kernel
theorem dL_punch_8 : decode cL_punch 8 = .ok (.lastore, 1) := by decide +kernel
theorem dL_punch_9 : decode cL_punch 9 = .ok (.goto 9, 3) := by decide +kernel
theorem dL_punch_12 : decode cL_punch 12 = .ok (.astore_n 3, 1) := by decide +kernel
theorem dL_punch_13 : decode cL_punch 13 = .ok (.iconst 1, 1) := by decide +kernel
theorem dL_punch_14 : decode cL_punch 14 = .ok (.ireturn, 1) := by decide +kernel
theorem dL_punch_15 : decode cL_punch 15 = .ok (.astore_n 3, 1) := by decide +kernel
theorem dL_punch_16 : decode cL_punch 16 = .ok (.iconst 2, 1) := by decide +kernel
theorem dL_punch_17 : decode cL_punch 17 = .ok (.ireturn, 1) := by decide +kernel
theorem dL_punch_18 : decode cL_punch 18 = .ok (.iconst 0, 1) := by decide +kernel
theorem dL_punch_19 : decode cL_punch 19 = .ok (.ireturn, 1) := by decide +kernel
set_option maxRecDepth 20000 in
theorem ggL_type_X3_type : GoodIn wsL_type wsX3_type := goodIn_ca (goodIn_ca (goodIn_r _ [7, 8, 9, 10, 11, 12, 13, 14, 6, 15, 16, 17, 18, 19, 20, 21, 22, 23, 24, 25, 26, 27, 28, 29, 30, 31, 32, 33, 34, 35, 36, 37, 38, 39, 40, 41, 42, 43, 44, 45, 46, 47, 48, 49, 50, 51, 52, 53, 54, 55, 56, 57, 58, 59, 60, 61, 62, 63, 64, 65, 66, 67, 68, 69, 70, 71, 72, 73, 74, 75, 76, 77, 78, 79, 80, 81] (by decide +kernel) (by decide +kernel)) (goodIn_sub (fun _ h => List.mem_cons_of_mem _ (List.mem_append_left _ (List.mem_append_right _ h))) (by decide +kernel))) (goodIn_sub (fun _ h => List.mem_cons_of_mem _ (List.mem_append_right _ h)) (by decide +kernel))
set_option maxRecDepth 20000 in
theorem gL_type_X3_type : GoodIn wsL_type (wsV RL 43 RX3 yX3_type wsX3_type) := goodIn_app (goodIn_of _ (by decide +kernel)) ggL_type_X3_type
theorem dL_type_0 : decode cL_type 0 = .ok (.aload_n 2, 1) := by decide +kernel
theorem dL_type_1 : decode cL_type 1 = .ok (.iconst 0, 1) := by decide +kernel
theorem dL_type_2 : decode cL_type 2 = .ok (.aload_n 0, 1) := by decide +kernel
theorem dL_type_3 : decode cL_type 3 = .ok (.iload_n 1, 1) := by decide +kernel
theorem dL_type_4 : decode cL_type 4 = .ok (.invokevirtual 43, 3) := by decide +kernel
theorem dL_type_7 : decode cL_type 7 = .ok (.i2l, 1) := by decide +kernel
theorem dL_type_8 : decode cL_type 8 = .ok (.lastore, 1) := by decide +kernel
theorem dL_type_9 : decode cL_type 9 = .ok (.goto 9, 3) := by decide +kernel
theorem dL_type_12 : decode cL_type 12 = .ok (.astore_n 3, 1) := by decide +kernel
theorem dL_type_13 : decode cL_type 13 = .ok (.iconst 1, 1) := by decide +kernel
theorem dL_type_14 : decode cL_type 14 = .ok (.ireturn, 1) := by decide +kernel
theorem dL_type_15 : decode cL_type 15 = .ok (.astore_n 3, 1) := by decide +kernel
theorem dL_type_16 : decode cL_type 16 = .ok (.iconst 2, 1) := by decide +kernel
theorem dL_type_17 : decode cL_type 17 = .ok (.ireturn, 1) := by decide +kernel
theorem dL_type_18 : decode cL_type 18 = .ok (.iconst 0, 1) := by decide +kernel
theorem dL_type_19 : decode cL_type 19 = .ok (.ireturn, 1) := by decide +kernel
set_option maxRecDepth 20000 in
theorem ggL_rub_X3_rub : GoodIn wsL_rub wsX3_rub := goodIn_ca (goodIn_r _ [6, 7, 8, 9, 10, 11, 12, 13, 14, 15, 16, 17, 18, 19, 20, 21, 22, 23, 24, 25, 26, 27, 28, 29, 30, 31, 32, 33, 34, 35, 36, 37] (by decide +kernel) (by decide +kernel)) (goodIn_sub (fun _ h => List.mem_cons_of_mem _ (List.mem_append_right _ h)) (by decide +kernel))
set_option maxRecDepth 20000 in
theorem gL_rub_X3_rub : GoodIn wsL_rub (wsV RL 46 RX3 yX3_rub wsX3_rub) := goodIn_app (goodIn_of _ (by decide +kernel)) ggL_rub_X3_rub
theorem dL_rub_0 : decode cL_rub 0 = .ok (.aload_n 2, 1) := by decide +kernel
theorem dL_rub_1 : decode cL_rub 1 = .ok (.iconst 0, 1) := by decide +kernel
theorem dL_rub_2 : decode cL_rub 2 = .ok (.aload_n 0, 1) := by decide +kernel
theorem dL_rub_3 : decode cL_rub 3 = .ok (.iload_n 1, 1) := by decide +kernel
theorem dL_rub_4 : decode cL_rub 4 = .ok (.invokevirtual 46, 3) := by decide +kernel
theorem dL_rub_7 : decode cL_rub 7 = .ok (.i2l, 1) := by decide +kernel
theorem dL_rub_8 : decode cL_rub 8 = .ok (.lastore, 1) := by decide +kernel
theorem dL_rub_9 : decode cL_rub 9 = .ok (.goto 6, 3) := by decide +kernel
theorem dL_rub_12 : decode cL_rub 12 = .ok (.astore_n 3, 1) := by decide +kernel
theorem dL_rub_13 : decode cL_rub 13 = .ok (.iconst 1, 1) := by decide +kernel
theorem dL_rub_14 : decode cL_rub 14 = .ok (.ireturn, 1) := by decide +kernel
theorem dL_rub_15 : decode cL_rub 15 = .ok (.iconst 0, 1) := by decide +kernel
theorem dL_rub_16 : decode cL_rub 16 = .ok (.ireturn, 1) := by decide +kernel
set_option maxRecDepth 20000 in
theorem ggL_run_X3_run : GoodIn wsL_run wsX3_run := goodIn_ca (goodIn_r _ [6, 7, 8, 9, 10, 11, 12, 13, 14, 15, 16, 17, 18, 19, 20, 21, 22, 23, 24, 25, 26, 27, 28, 29, 30, 31, 32, 5, 33, 34, 35, 36, 37, 38, 39, 40, 41, 42, 43, 44, 45, 46, 47, 48, 49, 50, 51, 52, 53, 54, 55, 56, 57, 58, 59, 60, 61, 62, 63, 64, 65, 66, 67, 68, 69, 70, 71, 72, 73, 74, 75, 76, 77, 78, 79, 80, 81, 82, 83, 84, 85, 86, 87, 88, 89, 90, 91, 92, 93, 94, 95, 96, 97, 98, 99, 100, 101, 102, 103, 104, 105, 106, 107, 108, 109, 110, 111, 112, 113, 114] (by decide +kernel) (by decide +kernel)) (goodIn_sub (fun _ h => List.mem_cons_of_mem _ (List.mem_append_right _ h)) (by decide +kernel))
set_option maxRecDepth 20000 in
theorem gL_run_X3_run : GoodIn wsL_run (wsV RL 49 RX3 yX3_run wsX3_run) := goodIn_app (goodIn_of _ (by decide +kernel)) ggL_run_X3_run
theorem dL_run_0 : decode cL_run 0 = .ok (.aload_n 2, 1) := by decide +kernel
theorem dL_run_1 : decode cL_run 1 = .ok (.iconst 0, 1) := by decide +kernel
theorem dL_run_2 : decode cL_run 2 = .ok (.aload_n 0, 1) := by decide +kernel
theorem dL_run_3 : decode cL_run 3 = .ok (.iload_n 1, 1) := by decide +kernel
theorem dL_run_4 : decode cL_run 4 = .ok (.invokevirtual 49, 3) := by decide +kernel
theorem dL_run_7 : decode cL_run 7 = .ok (.i2l, 1) := by decide +kernel
theorem dL_run_8 : decode cL_run 8 = .ok (.lastore, 1) := by decide +kernel
theorem dL_run_9 : decode cL_run 9 = .ok (.goto 6, 3) := by decide +kernel
theorem dL_run_12 : decode cL_run 12 = .ok (.astore_n 3, 1) := by decide +kernel
theorem dL_run_13 : decode cL_run 13 = .ok (.iconst 1, 1) := by decide +kernel
theorem dL_run_14 : decode cL_run 14 = .ok (.ireturn, 1) := by decide +kernel
theorem dL_run_15 : decode cL_run 15 = .ok (.iconst 0, 1) := by decide +kernel
theorem dL_run_16 : decode cL_run 16 = .ok (.ireturn, 1) := by decide +kernel
set_option maxRecDepth 20000 in
theorem ggL_wind_X3_wind : GoodIn wsL_wind wsX3_wind := goodIn_ca (goodIn_r _ [6, 7, 8, 9, 10, 11, 12, 13, 14, 15, 16, 17, 18, 19, 20, 21, 22, 23, 24, 25, 26, 27, 28] (by decide +kernel) (by decide +kernel)) (goodIn_sub (fun _ h => List.mem_cons_of_mem _ (List.mem_append_right _ h)) (by decide +kernel))
set_option maxRecDepth 20000 in
theorem gL_wind_X3_wind : GoodIn wsL_wind (wsV RL 52 RX3 yX3_wind wsX3_wind) := goodIn_app (goodIn_of _ (by decide +kernel)) ggL_wind_X3_wind
theorem dL_wind_0 : decode cL_wind 0 = .ok (.aload_n 2, 1) := by decide +kernel
theorem dL_wind_1 : decode cL_wind 1 = .ok (.iconst 0, 1) := by decide +kernel
theorem dL_wind_2 : decode cL_wind 2 = .ok (.aload_n 0, 1) := by decide +kernel
theorem dL_wind_3 : decode cL_wind 3 = .ok (.iload_n 1, 1) := by decide +kernel
theorem dL_wind_4 : decode cL_wind 4 = .ok (.invokevirtual 52, 3) := by decide +kernel
theorem dL_wind_7 : decode cL_wind 7 = .ok (.i2l, 1) := by decide +kernel
theorem dL_wind_8 : decode cL_wind 8 = .ok (.lastore, 1) := by decide +kernel
theorem dL_wind_9 : decode cL_wind 9 = .ok (.goto 6, 3) := by decide +kernel
theorem dL_wind_12 : decode cL_wind 12 = .ok (.astore_n 3, 1) := by decide +kernel
theorem dL_wind_13 : decode cL_wind 13 = .ok (.iconst 1, 1) := by decide +kernel
theorem dL_wind_14 : decode cL_wind 14 = .ok (.ireturn, 1) := by decide +kernel
theorem dL_wind_15 : decode cL_wind 15 = .ok (.iconst 0, 1) := by decide +kernel
theorem dL_wind_16 : decode cL_wind 16 = .ok (.ireturn, 1) := by decide +kernel
set_option maxRecDepth 20000 in
theorem ggL_tape_X3_tape : GoodIn wsL_tape wsX3_tape := goodIn_ca (goodIn_r _ [6, 7, 8, 9, 10, 11, 12, 13, 14, 15, 16, 17, 18, 19, 20, 21, 22, 23, 24, 25, 26, 27, 28, 29, 30, 31, 32, 33] (by decide +kernel) (by decide +kernel)) (goodIn_sub (fun _ h => List.mem_cons_of_mem _ (List.mem_append_right _ h)) (by decide +kernel))
set_option maxRecDepth 20000 in
theorem gL_tape_X3_tape : GoodIn wsL_tape (wsV RL 55 RX3 yX3_tape wsX3_tape) := goodIn_app (goodIn_of _ (by decide +kernel)) ggL_tape_X3_tape
theorem dL_tape_0 : decode cL_tape 0 = .ok (.aload_n 2, 1) := by decide +kernel
theorem dL_tape_1 : decode cL_tape 1 = .ok (.iconst 0, 1) := by decide +kernel
theorem dL_tape_2 : decode cL_tape 2 = .ok (.aload_n 0, 1) := by decide +kernel
theorem dL_tape_3 : decode cL_tape 3 = .ok (.iload_n 1, 1) := by decide +kernel
theorem dL_tape_4 : decode cL_tape 4 = .ok (.invokevirtual 55, 3) := by decide +kernel
theorem dL_tape_7 : decode cL_tape 7 = .ok (.i2l, 1) := by decide +kernel
theorem dL_tape_8 : decode cL_tape 8 = .ok (.lastore, 1) := by decide +kernel
theorem dL_tape_9 : decode cL_tape 9 = .ok (.goto 6, 3) := by decide +kernel
theorem dL_tape_12 : decode cL_tape 12 = .ok (.astore_n 3, 1) := by decide +kernel
theorem dL_tape_13 : decode cL_tape 13 = .ok (.iconst 1, 1) := by decide +kernel
theorem dL_tape_14 : decode cL_tape 14 = .ok (.ireturn, 1) := by decide +kernel
theorem dL_tape_15 : decode cL_tape 15 = .ok (.iconst 0, 1) := by decide +kernel
theorem dL_tape_16 : decode cL_tape 16 = .ok (.ireturn, 1) := by decide +kernel
set_option maxRecDepth 20000 in
theorem ggL_page_X3_page : GoodIn wsL_page wsX3_page := goodIn_ca (goodIn_r _ [6, 7, 8, 9, 10, 11, 12, 13, 14, 15, 16, 17, 18, 19, 20, 21, 22, 23, 24, 25, 26, 27, 28, 29, 30, 31, 32, 33, 34, 35, 36, 37, 38, 39, 40, 41, 42, 43, 44] (by decide +kernel) (by decide +kernel)) (goodIn_sub (fun _ h => List.mem_cons_of_mem _ (List.mem_append_right _ h)) (by decide +kernel))
set_option maxRecDepth 20000 in
theorem gL_page_X3_page : GoodIn wsL_page (wsV RL 58 RX3 yX3_page wsX3_page) := goodIn_app (goodIn_of _ (by decide +kernel)) ggL_page_X3_page
theorem dL_page_0 : decode cL_page 0 = .ok (.aload_n 3, 1) := by decide +kernel
theorem dL_page_1 : decode cL_page 1 = .ok (.iconst 0, 1) := by decide +kernel
theorem dL_page_2 : decode cL_page 2 = .ok (.aload_n 0, 1) := by decide +kernel
theorem dL_page_3 : decode cL_page 3 = .ok (.iload_n 1, 1) := by decide +kernel
theorem dL_page_4 : decode cL_page 4 = .ok (.iload_n 2, 1) := by decide +kernel
theorem dL_page_5 : decode cL_page 5 = .ok (.invokevirtual 58, 3) := by decide +kernel
theorem dL_page_8 : decode cL_page 8 = .ok (.i2l, 1) := by decide +kernel
theorem dL_page_9 : decode cL_page 9 = .ok (.lastore, 1) := by decide +kernel
theorem dL_page_10 : decode cL_page 10 = .ok (.goto 7, 3) := by decide +kernel
theorem dL_page_13 : decode cL_page 13 = .ok (.astore 4, 2) := by decide +kernel
theorem dL_page_15 : decode cL_page 15 = .ok (.iconst 1, 1) := by decide +kernel
theorem dL_page_16 : decode cL_page 16 = .ok (.ireturn, 1) := by decide +kernel
theorem dL_page_17 : decode cL_page 17 = .ok (.iconst 0, 1) := by decide +kernel
theorem dL_page_18 : decode cL_page 18 = .ok (.ireturn, 1) := by decide +kernel
set_option maxRecDepth 20000 in
theorem ggL_length_X3_length : GoodIn wsL_length wsX3_length := goodIn_ca (goodIn_r _ [6, 7, 8, 9, 10, 11, 12, 13, 14, 15, 16, 17, 18, 19, 20, 21, 22, 23, 24, 25, 26, 27, 28, 29, 30, 31, 32, 33, 34, 35, 36, 37, 38] (by decide +kernel) (by decide +kernel)) (goodIn_sub (fun _ h => List.mem_cons_of_mem _ (List.mem_append_right _ h)) (by decide +kernel))
set_option maxRecDepth 20000 in
theorem gL_length_X3_length : GoodIn wsL_length (wsV RL 61 RX3 yX3_length wsX3_length) := goodIn_app (goodIn_of _ (by decide +kernel)) ggL_length_X3_length
theorem dL_length_0 : decode cL_length 0 = .ok (.aload_n 2, 1) := by decide +kernel
theorem dL_length_1 : decode cL_length 1 = .ok (.iconst 0, 1) := by decide +kernel
theorem dL_length_2 : decode cL_length 2 = .ok (.aload_n 0, 1) := by decide +kernel
theorem dL_length_3 : decode cL_length 3 = .ok (.iload_n 1, 1) := by decide +kernel
theorem dL_length_4 : decode cL_length 4 = .ok (.invokevirtual 61, 3) := by decide +kernel
theorem dL_length_7 : decode cL_length 7 = .ok (.i2l, 1) := by decide +kernel
theorem dL_length_8 : decode cL_length 8 = .ok (.lastore, 1) := by decide +kernel
theorem dL_length_9 : decode cL_length 9 = .ok (.goto 6, 3) := by decide +kernel
theorem dL_length_12 : decode cL_length 12 = .ok (.astore_n 3, 1) := by decide +kernel
theorem dL_length_13 : decode cL_length 13 = .ok (.iconst 1, 1) := by decide +kernel
theorem dL_length_14 : decode cL_length 14 = .ok (.ireturn, 1) := by decide +kernel
theorem dL_length_15 : decode cL_length 15 = .ok (.iconst 0, 1) := by decide +kernel
theorem dL_length_16 : decode cL_length 16 = .ok (.ireturn, 1) := by decide +kernel
set_option maxRecDepth 20000 in
theorem ggL_count_X3_count : GoodIn wsL_count wsX3_count := goodIn_ca (goodIn_r _ [6, 7, 8, 9, 10, 11, 5, 12, 13, 14, 15, 16, 17, 18, 19, 20, 21, 22, 23, 24, 25, 26, 27, 28, 29, 30, 31, 32, 33, 34, 35, 36, 37, 38, 39, 40, 41, 42, 43, 44, 45, 46, 47, 48, 49, 50, 51, 52, 53, 54, 55, 56, 57, 58, 59, 60, 61, 62, 63, 64, 65, 66, 67, 68, 69] (by decide +kernel) (by decide +kernel)) (goodIn_sub (fun _ h => List.mem_cons_of_mem _ (List.mem_append_right _ h)) (by decide +kernel))
set_option maxRecDepth 20000 in
theorem gL_count_X3_count : GoodIn wsL_count (wsV RL 64 RX3 yX3_count wsX3_count) := goodIn_app (goodIn_of _ (by decide +kernel)) ggL_count_X3_count
theorem dL_count_0 : decode cL_count 0 = .ok (.aload_n 2, 1) := by decide +kernel
theorem dL_count_1 : decode cL_count 1 = .ok (.iconst 0, 1) := by decide +kernel
theorem dL_count_2 : decode cL_count 2 = .ok (.aload_n 0, 1) := by decide +kernel
theorem dL_count_3 : decode cL_count 3 = .ok (.iload_n 1, 1) := by decide +kernel
theorem dL_count_4 : decode cL_count 4 = .ok (.invokevirtual 64, 3) := by decide +kernel
theorem dL_count_7 : decode cL_count 7 = .ok (.i2l, 1) := by decide +kernel
theorem dL_count_8 : decode cL_count 8 = .ok (.lastore, 1) := by decide +kernel
theorem dL_count_9 : decode cL_count 9 = .ok (.goto 6, 3) := by decide +kernel
theorem dL_count_12 : decode cL_count 12 = .ok (.astore_n 3, 1) := by decide +kernel
theorem dL_count_13 : decode cL_count 13 = .ok (.iconst 1, 1) := by decide +kernel
theorem dL_count_14 : decode cL_count 14 = .ok (.ireturn, 1) := by decide +kernel
theorem dL_count_15 : decode cL_count 15 = .ok (.iconst 0, 1) := by decide +kernel
theorem dL_count_16 : decode cL_count 16 = .ok (.ireturn, 1) := by decide +kernel
set_option maxRecDepth 20000 in
theorem ggL_would_X3_would : GoodIn wsL_would wsX3_would := goodIn_ca (goodIn_r _ [6, 7, 8, 9, 10, 11, 12, 5, 13, 14, 15, 16, 17, 18, 19, 20, 21, 22, 23, 24, 25, 26, 27, 28, 29, 30, 31, 32, 33, 34, 35, 36, 37, 38, 39, 40, 41, 42, 43, 44, 45, 46, 47] (by decide +kernel) (by decide +kernel)) (goodIn_sub (fun _ h => List.mem_cons_of_mem _ (List.mem_append_right _ h)) (by decide +kernel))
set_option maxRecDepth 20000 in
theorem gL_would_X3_would : GoodIn wsL_would (wsV RL 67 RX3 yX3_would wsX3_would) := goodIn_app (goodIn_of _ (by decide +kernel)) ggL_would_X3_would
theorem dL_would_0 : decode cL_would 0 = .ok (.aload_n 2, 1) := by decide +kernel
theorem dL_would_1 : decode cL_would 1 = .ok (.iconst 0, 1) := by decide +kernel
theorem dL_would_2 : decode cL_would 2 = .ok (.aload_n 0, 1) := by decide +kernel
theorem dL_would_3 : decode cL_would 3 = .ok (.iload_n 1, 1) := by decide +kernel
theorem dL_would_4 : decode cL_would 4 = .ok (.invokevirtual 67, 3) := by decide +kernel
theorem dL_would_7 : decode cL_would 7 = .ok (.i2l, 1) := by decide +kernel
theorem dL_would_8 : decode cL_would 8 = .ok (.lastore, 1) := by decide +kernel
theorem dL_would_9 : decode cL_would 9 = .ok (.goto 6, 3) := by decide +kernel
theorem dL_would_12 : decode cL_would 12 = .ok (.astore_n 3, 1) := by decide +kernel
theorem dL_would_13 : decode cL_would 13 = .ok (.iconst 1, 1) := by decide +kernel
theorem dL_would_14 : decode cL_would 14 = .ok (.ireturn, 1) := by decide +kernel
theorem dL_would_15 : decode cL_would 15 = .ok (.iconst 0, 1) := by decide +kernel
theorem dL_would_16 : decode cL_would 16 = .ok (.ireturn, 1) := by decide +kernel
set_option maxRecDepth 20000 in
theorem ggL_prints_X3_prints : GoodIn wsL_prints wsX3_prints := goodIn_ca (goodIn_r _ [6, 7, 8, 9, 10, 11, 12, 13, 14, 15, 16, 17, 18, 19, 20, 21, 22, 23, 24, 5, 25, 26, 27, 28, 29, 30, 31, 32, 33, 34, 35, 36, 37, 38, 39, 40, 41, 42, 43, 44, 45, 46, 47, 48, 49, 50, 51, 52, 53, 54, 55, 56, 57, 58, 59, 60] (by decide +kernel) (by decide +kernel)) (goodIn_sub (fun _ h => List.mem_cons_of_mem _ (List.mem_append_right _ h)) (by decide +kernel))
set_option maxRecDepth 20000 in
theorem gL_prints_X3_prints : GoodIn wsL_prints (wsV RL 70 RX3 yX3_prints wsX3_prints) := goodIn_app (goodIn_of _ (by decide +kernel)) ggL_prints_X3_prints
theorem dL_prints_0 : decode cL_prints 0 = .ok (.aload_n 2, 1) := by decide +kernel
theorem dL_prints_1 : decode cL_prints 1 = .ok (.iconst 0, 1) := by decide +kernel
theorem dL_prints_2 : decode cL_prints 2 = .ok (.aload_n 0, 1) := by decide +kernel
theorem dL_prints_3 : decode cL_prints 3 = .ok (.iload_n 1, 1) := by decide +kernel
theorem dL_prints_4 : decode cL_prints 4 = .ok (.invokevirtual 70, 3) := by decide +kernel
theorem dL_prints_7 : decode cL_prints 7 = .ok (.i2l, 1) := by decide +kernel
theorem dL_prints_8 : decode cL_prints 8 = .ok (.lastore, 1) := by decide +kernel
theorem dL_prints_9 : decode cL_prints 9 = .ok (.goto 6, 3) := by decide +kernel
theorem dL_prints_12 : decode cL_prints 12 = .ok (.astore_n 3, 1) := by decide +kernel
theorem dL_prints_13 : decode cL_prints 13 = .ok (.iconst 1, 1) := by decide +kernel
theorem dL_prints_14 : decode cL_prints 14 = .ok (.ireturn, 1) := by decide +kernel
theorem dL_prints_15 : decode cL_prints 15 = .ok (.iconst 0, 1) := by decide +kernel
theorem dL_prints_16 : decode cL_prints 16 = .ok (.ireturn, 1) := by decide +kernel
set_option maxRecDepth 20000 in
theorem ggL_law_X3_init : GoodIn wsL_law wsX3_init := goodIn_r _ [9, 10, 11, 12, 13, 14, 15, 16, 17, 18, 19, 20, 21, 22, 23, 24, 25, 26, 27, 28, 29, 30, 31, 32, 33, 34, 35, 36, 37, 38, 39, 40, 41, 42, 43, 44, 45, 46, 47, 48, 49, 50, 51, 595, 596, 597, 569, 570, 571, 572, 573, 574, 575, 576, 577, 578, 598, 599, 600, 601, 602] (by decide +kernel) (by decide +kernel)
set_option maxRecDepth 20000 in
theorem gL_law_X3_init : GoodIn wsL_law (wsX3_init) := ggL_law_X3_init
set_option maxRecDepth 20000 in
theorem ggL_law_X4_init : GoodIn wsL_law wsX4_init := goodIn_r _ [54, 55, 11, 12, 56, 36, 57, 58, 59, 60, 61, 579, 580, 581, 582, 583, 584, 585, 586, 587, 588, 589, 590, 591, 592, 593, 594] (by decide +kernel) (by decide +kernel)
set_option maxRecDepth 20000 in
theorem gL_law_X4_init : GoodIn wsL_law (wsX4_init) := ggL_law_X4_init
set_option maxRecDepth 20000 in
theorem ggL_law_L_code : GoodIn wsL_law wsL_code := goodIn_ca (goodIn_r _ [65, 66, 67, 68, 69, 2, 70, 71, 72, 73, 74, 75, 76, 77, 78, 79] (by decide +kernel) (by decide +kernel)) (goodIn_sub (fun _ h => List.mem_append_left _ (List.mem_append_left _ (List.mem_append_right _ h))) (by decide +kernel))
set_option maxRecDepth 20000 in
theorem gL_law_L_code : GoodIn wsL_law (va_wsS RL 77 yL_code wsL_code) := goodIn_app (goodIn_of _ (by decide +kernel)) ggL_law_L_code
set_option maxRecDepth 20000 in
theorem ggL_law_X4_code : GoodIn wsL_law wsX4_code := goodIn_r _ [83, 84, 85, 86, 5, 87, 88, 89, 90, 91, 92, 93, 94, 95, 96, 97, 98, 99, 100, 579, 580, 581, 582, 583, 584, 585, 586, 587, 588, 589, 590, 591, 592, 593, 594] (by decide +kernel) (by decide +kernel)
set_option maxRecDepth 20000 in
theorem gL_law_X4_code : GoodIn wsL_law (wsV RL 82 RX4 yX4_code wsX4_code) := goodIn_app (goodIn_of _ (by decide +kernel)) ggL_law_X4_code
set_option maxRecDepth 20000 in
theorem ggL_law_X4_thrown : GoodIn wsL_law wsX4_thrown := goodIn_r _ [104, 84, 579, 580, 581, 582, 583, 584, 585, 586, 587, 588, 589, 590, 591, 592, 593, 594] (by decide +kernel) (by decide +kernel)
set_option maxRecDepth 20000 in
theorem gL_law_X4_thrown : GoodIn wsL_law (wsV RL 83 RX4 yX4_thrown wsX4_thrown) := goodIn_app (goodIn_of _ (by decide +kernel)) ggL_law_X4_thrown
set_option maxRecDepth 20000 in
theorem ggL_law_L_character : GoodIn wsL_law wsL_character := goodIn_ca (goodIn_r _ [107, 66, 108, 109, 110, 2, 111, 71, 72, 112, 113, 114, 115, 116, 117, 118, 119, 120, 121, 122, 123, 124] (by decide +kernel) (by decide +kernel)) (goodIn_sub (fun _ h => List.mem_append_left _ (List.mem_append_left _ (List.mem_append_right _ h))) (by decide +kernel))
set_option maxRecDepth 20000 in
theorem gL_law_L_character : GoodIn wsL_law (va_wsS RL 87 yL_character wsL_character) := goodIn_app (goodIn_of _ (by decide +kernel)) ggL_law_L_character
set_option maxRecDepth 20000 in
theorem ggL_law_X4_character : GoodIn wsL_law wsX4_character := goodIn_r _ [128, 84, 129, 130, 5, 131, 88, 89, 90, 132, 133, 134, 94, 95, 96, 97, 98, 99, 100, 579, 580, 581, 582, 583, 584, 585, 586, 587, 588, 589, 590, 591, 592, 593, 594] (by decide +kernel) (by decide +kernel)
set_option maxRecDepth 20000 in
theorem gL_law_X4_character : GoodIn wsL_law (wsV RL 90 RX4 yX4_character wsX4_character) := goodIn_app (goodIn_of _ (by decide +kernel)) ggL_law_X4_character
set_option maxRecDepth 20000 in
theorem ggL_law_L_apart : GoodIn wsL_law wsL_apart := goodIn_ca (goodIn_r _ [137, 66, 138, 139, 140, 2, 141, 71, 72, 73, 74, 75, 76, 77, 78, 79, 142, 143, 144, 145, 146, 147, 148] (by decide +kernel) (by decide +kernel)) (goodIn_sub (fun _ h => List.mem_append_left _ (List.mem_append_left _ (List.mem_append_right _ h))) (by decide +kernel))
set_option maxRecDepth 20000 in
theorem gL_law_L_apart : GoodIn wsL_law (va_wsS RL 91 yL_apart wsL_apart) := goodIn_app (goodIn_of _ (by decide +kernel)) ggL_law_L_apart
set_option maxRecDepth 20000 in
theorem ggL_law_X4_apart : GoodIn wsL_law wsX4_apart := goodIn_r _ [152, 84, 85, 86, 5, 87, 88, 89, 90, 91, 92, 93, 94, 95, 96, 153, 154, 155, 97, 98, 99, 100, 579, 580, 581, 582, 583, 584, 585, 586, 587, 588, 589, 590, 591, 592, 593, 594] (by decide +kernel) (by decide +kernel)
set_option maxRecDepth 20000 in
theorem gL_law_X4_apart : GoodIn wsL_law (wsV RL 94 RX4 yX4_apart wsX4_apart) := goodIn_app (goodIn_of _ (by decide +kernel)) ggL_law_X4_apart
set_option maxRecDepth 20000 in
theorem ggL_law_L_doubts : GoodIn wsL_law wsL_doubts := goodIn_ca (goodIn_r _ [158, 66, 159, 160, 161, 2, 162, 71, 72, 163, 112, 113, 114, 115, 116, 117, 118, 119, 120, 121, 122, 123, 124, 569, 570, 571, 572, 573, 574, 575, 576, 577, 578] (by decide +kernel) (by decide +kernel)) (goodIn_sub (fun _ h => List.mem_append_left _ (List.mem_append_left _ (List.mem_append_right _ h))) (by decide +kernel))
set_option maxRecDepth 20000 in
theorem gL_law_L_doubts : GoodIn wsL_law (va_wsS RL 95 yL_doubts wsL_doubts) := goodIn_app (goodIn_of _ (by decide +kernel)) ggL_law_L_doubts
set_option maxRecDepth 20000 in
theorem ggL_law_X4_doubts : GoodIn wsL_law wsX4_doubts := goodIn_r _ [167, 84, 168, 129, 130, 5, 131, 88, 89, 90, 97, 98, 99, 100, 132, 133, 134, 94, 95, 96, 579, 580, 581, 582, 583, 584, 585, 586, 587, 588, 589, 590, 591, 592, 593, 594] (by decide +kernel) (by decide +kernel)
set_option maxRecDepth 20000 in
theorem gL_law_X4_doubts : GoodIn wsL_law (wsV RL 97 RX4 yX4_doubts wsX4_doubts) := goodIn_app (goodIn_of _ (by decide +kernel)) ggL_law_X4_doubts
set_option maxRecDepth 20000 in
theorem ggL_law_L_setLine : GoodIn wsL_law wsL_setLine := goodIn_ca (goodIn_ca (goodIn_r _ [171, 66, 172, 173, 174, 175, 2, 176, 71, 72, 177, 178, 16, 112, 113, 114, 179, 180, 181, 15, 182, 30, 183, 184, 185, 23, 186, 37, 187, 188, 189, 190, 42, 191, 192, 193, 194, 31, 195, 196, 197, 198, 569, 570, 571, 572, 573, 574, 575, 576, 577, 578, 595, 596, 597, 601, 602] (by decide +kernel) (by decide +kernel)) (goodIn_sub (fun _ h => List.mem_append_left _ (List.mem_append_left _ (List.mem_append_right _ h))) (by decide +kernel))) (goodIn_sub (fun _ h => List.mem_append_left _ (List.mem_append_right _ h)) (by decide +kernel))
set_option maxRecDepth 20000 in
theorem gL_law_L_setLine : GoodIn wsL_law (va_wsS RL 98 yL_setLine wsL_setLine) := goodIn_app (goodIn_of _ (by decide +kernel)) ggL_law_L_setLine
set_option maxRecDepth 20000 in
theorem ggL_law_X4_setLine : GoodIn wsL_law wsX4_setLine := goodIn_r _ [202, 84, 59, 60, 88, 89, 5, 90, 97, 98, 99, 100, 129, 130, 131, 579, 580, 581, 582, 583, 584, 585, 586, 587, 588, 589, 590, 591, 592, 593, 594] (by decide +kernel) (by decide +kernel)
set_option maxRecDepth 20000 in
theorem gL_law_X4_setLine : GoodIn wsL_law (wsV RL 101 RX4 yX4_setLine wsX4_setLine) := goodIn_app (goodIn_of _ (by decide +kernel)) ggL_law_X4_setLine
set_option maxRecDepth 20000 in
theorem ggL_law_L_setPlay : GoodIn wsL_law wsL_setPlay := goodIn_ca (goodIn_r _ [205, 172, 206, 207, 208, 2, 209, 177, 178, 16, 210, 211, 212, 15, 213, 214, 215, 216, 217, 218, 569, 570, 571, 572, 573, 574, 575, 576, 577, 578, 595, 596, 597] (by decide +kernel) (by decide +kernel)) (goodIn_sub (fun _ h => List.mem_append_left _ (List.mem_append_right _ h)) (by decide +kernel))
set_option maxRecDepth 20000 in
theorem gL_law_L_setPlay : GoodIn wsL_law (va_wsS RL 102 yL_setPlay wsL_setPlay) := goodIn_app (goodIn_of _ (by decide +kernel)) ggL_law_L_setPlay
set_option maxRecDepth 20000 in
theorem ggL_law_X4_setPlay : GoodIn wsL_law wsX4_setPlay := goodIn_r _ [222, 84, 223, 88, 89, 5, 90, 97, 98, 99, 100, 579, 580, 581, 582, 583, 584, 585, 586, 587, 588, 589, 590, 591, 592, 593, 594] (by decide +kernel) (by decide +kernel)
set_option maxRecDepth 20000 in
theorem gL_law_X4_setPlay : GoodIn wsL_law (wsV RL 104 RX4 yX4_setPlay wsX4_setPlay) := goodIn_app (goodIn_of _ (by decide +kernel)) ggL_law_X4_setPlay
set_option maxRecDepth 20000 in
theorem ggL_law_X3_setUnshift : GoodIn wsL_law wsX3_setUnshift := goodIn_r _ [227, 228, 569, 570, 571, 572, 573, 574, 575, 576, 577, 578] (by decide +kernel) (by decide +kernel)
set_option maxRecDepth 20000 in
theorem gL_law_X3_setUnshift : GoodIn wsL_law (wsV RL 105 RX3 yX3_setUnshift wsX3_setUnshift) := goodIn_app (goodIn_of _ (by decide +kernel)) ggL_law_X3_setUnshift
set_option maxRecDepth 20000 in
theorem ggL_law_X4_setUnshift : GoodIn wsL_law wsX4_setUnshift := goodIn_r _ [232, 84, 233, 579, 580, 581, 582, 583, 584, 585, 586, 587, 588, 589, 590, 591, 592, 593, 594] (by decide +kernel) (by decide +kernel)
set_option maxRecDepth 20000 in
theorem gL_law_X4_setUnshift : GoodIn wsL_law (wsV RL 109 RX4 yX4_setUnshift wsX4_setUnshift) := goodIn_app (goodIn_of _ (by decide +kernel)) ggL_law_X4_setUnshift
set_option maxRecDepth 20000 in
theorem ggL_law_L_receive : GoodIn wsL_law wsL_receive := goodIn_ca (goodIn_r _ [236, 66, 237, 238, 239, 2, 240, 71, 72, 112, 113, 114, 241, 242, 243, 244, 16, 245, 246, 247, 248, 249, 15, 250, 31, 30, 214, 183, 184, 185, 23, 186, 37, 187, 188, 189, 190, 42, 251, 252, 253, 254, 163, 20, 255, 256, 115, 116, 117, 118, 119, 120, 121, 122, 123, 124, 257, 258, 259, 19, 260, 49, 261, 262, 263, 264, 265, 48, 266, 267, 268, 269, 270, 271, 272, 273, 274, 39, 40, 41, 275, 276, 277, 278, 279, 280, 281, 282, 228, 569, 570, 571, 572, 573, 574, 575, 576, 577, 578, 595, 596, 597, 601, 602, 598, 599, 600] (by decide +kernel) (by decide +kernel)) (goodIn_sub (fun _ h => List.mem_append_left _ (List.mem_append_left _ (List.mem_append_right _ h))) (by decide +kernel))
set_option maxRecDepth 20000 in
theorem gL_law_L_receive : GoodIn wsL_law (va_wsS RL 110 yL_receive wsL_receive) := goodIn_app (goodIn_of _ (by decide +kernel)) ggL_law_L_receive
set_option maxRecDepth 20000 in
theorem ggL_law_X4_receive : GoodIn wsL_law wsX4_receive := goodIn_r _ [286, 84, 129, 130, 5, 131, 88, 89, 90, 287, 288, 289, 290, 291, 292, 293, 294, 295, 296, 60, 59, 223, 297, 298, 299, 300, 301, 168, 302, 303, 304, 305, 56, 58, 306, 307, 308, 309, 57, 132, 133, 134, 94, 95, 96, 310, 311, 312, 313, 314, 315, 316, 317, 318, 233, 97, 98, 99, 100, 579, 580, 581, 582, 583, 584, 585, 586, 587, 588, 589, 590, 591, 592, 593, 594] (by decide +kernel) (by decide +kernel)
set_option maxRecDepth 20000 in
theorem gL_law_X4_receive : GoodIn wsL_law (wsV RL 112 RX4 yX4_receive wsX4_receive) := goodIn_app (goodIn_of _ (by decide +kernel)) ggL_law_X4_receive
set_option maxRecDepth 20000 in
theorem ggL_law_L_punch : GoodIn wsL_law wsL_punch := goodIn_ca (goodIn_ca (goodIn_r _ [321, 66, 322, 323, 324, 325, 2, 326, 71, 72, 327, 328, 24, 112, 113, 114, 329, 330, 331, 23, 332, 37, 42, 333, 39, 40, 41, 334, 335, 336, 337, 569, 570, 571, 572, 573, 574, 575, 576, 577, 578, 601, 602] (by decide +kernel) (by decide +kernel)) (goodIn_sub (fun _ h => List.mem_append_left _ (List.mem_append_left _ (List.mem_append_right _ h))) (by decide +kernel))) (goodIn_sub (fun _ h => List.mem_append_right _ h) (by decide +kernel))
set_option maxRecDepth 20000 in
theorem gL_law_L_punch : GoodIn wsL_law (va_wsS RL 113 yL_punch wsL_punch) := goodIn_app (goodIn_of _ (by decide +kernel)) ggL_law_L_punch
set_option maxRecDepth 20000 in
theorem ggL_law_X4_punch : GoodIn wsL_law wsX4_punch := goodIn_r _ [341, 84, 342, 129, 130, 5, 131, 88, 89, 90, 97, 98, 99, 100, 343, 344, 345, 346, 61, 579, 580, 581, 582, 583, 584, 585, 586, 587, 588, 589, 590, 591, 592, 593, 594] (by decide +kernel) (by decide +kernel)
set_option maxRecDepth 20000 in
theorem gL_law_X4_punch : GoodIn wsL_law (wsV RL 115 RX4 yX4_punch wsX4_punch) := goodIn_app (goodIn_of _ (by decide +kernel)) ggL_law_X4_punch
set_option maxRecDepth 20000 in
theorem ggL_law_L_type : GoodIn wsL_law wsL_type := goodIn_ca (goodIn_ca (goodIn_r _ [349, 66, 322, 350, 351, 352, 2, 353, 71, 72, 327, 328, 24, 73, 74, 75, 354, 355, 356, 76, 77, 78, 79, 122, 123, 124, 118, 119, 120, 121, 357, 358, 359, 360, 334, 335, 336, 23, 337, 42, 361, 362, 363, 364, 365, 184, 185, 186, 37, 187, 188, 189, 190, 275, 276, 277, 278, 279, 280, 281, 282, 228, 329, 330, 331, 332, 333, 39, 40, 41, 569, 570, 571, 572, 573, 574, 575, 576, 577, 578, 601, 602] (by decide +kernel) (by decide +kernel)) (goodIn_sub (fun _ h => List.mem_append_left _ (List.mem_append_left _ (List.mem_append_right _ h))) (by decide +kernel))) (goodIn_sub (fun _ h => List.mem_append_right _ h) (by decide +kernel))
set_option maxRecDepth 20000 in
theorem gL_law_L_type : GoodIn wsL_law (va_wsS RL 116 yL_type wsL_type) := goodIn_app (goodIn_of _ (by decide +kernel)) ggL_law_L_type
set_option maxRecDepth 20000 in
theorem ggL_law_X4_type : GoodIn wsL_law wsX4_type := goodIn_r _ [369, 84, 342, 85, 86, 5, 87, 88, 89, 90, 97, 98, 99, 100, 370, 371, 372, 373, 61, 315, 316, 317, 318, 233, 343, 344, 345, 346, 91, 92, 93, 94, 95, 96, 579, 580, 581, 582, 583, 584, 585, 586, 587, 588, 589, 590, 591, 592, 593, 594] (by decide +kernel) (by decide +kernel)
set_option maxRecDepth 20000 in
theorem gL_law_X4_type : GoodIn wsL_law (wsV RL 118 RX4 yX4_type wsX4_type) := goodIn_app (goodIn_of _ (by decide +kernel)) ggL_law_X4_type
set_option maxRecDepth 20000 in
theorem ggL_law_L_rub : GoodIn wsL_law wsL_rub := goodIn_ca (goodIn_r _ [376, 66, 377, 378, 379, 2, 380, 71, 72, 24, 381, 188, 189, 23, 190, 42, 37, 365, 184, 185, 186, 187, 382, 196, 197, 198, 569, 570, 571, 572, 573, 574, 575, 576, 577, 578, 601, 602] (by decide +kernel) (by decide +kernel)) (goodIn_sub (fun _ h => List.mem_append_left _ (List.mem_append_left _ (List.mem_append_right _ h))) (by decide +kernel))
set_option maxRecDepth 20000 in
theorem gL_law_L_rub : GoodIn wsL_law (va_wsS RL 119 yL_rub wsL_rub) := goodIn_app (goodIn_of _ (by decide +kernel)) ggL_law_L_rub
set_option maxRecDepth 20000 in
theorem ggL_law_X4_rub : GoodIn wsL_law wsX4_rub := goodIn_r _ [386, 84, 61, 387, 388, 389, 5, 390, 342, 88, 89, 90, 97, 98, 99, 100, 579, 580, 581, 582, 583, 584, 585, 586, 587, 588, 589, 590, 591, 592, 593, 594] (by decide +kernel) (by decide +kernel)
set_option maxRecDepth 20000 in
theorem gL_law_X4_rub : GoodIn wsL_law (wsV RL 121 RX4 yX4_rub wsX4_rub) := goodIn_app (goodIn_of _ (by decide +kernel)) ggL_law_X4_rub
set_option maxRecDepth 20000 in
theorem ggL_law_L_run : GoodIn wsL_law wsL_run := goodIn_ca (goodIn_r _ [393, 172, 394, 395, 396, 2, 397, 177, 178, 24, 398, 399, 400, 401, 402, 334, 335, 336, 23, 337, 42, 365, 184, 185, 186, 37, 187, 188, 189, 190, 241, 242, 243, 244, 16, 245, 246, 247, 248, 249, 15, 250, 31, 30, 214, 183, 251, 252, 253, 254, 163, 20, 255, 256, 115, 116, 117, 118, 119, 120, 121, 122, 123, 124, 257, 258, 259, 19, 260, 49, 261, 262, 263, 264, 265, 48, 266, 267, 268, 269, 270, 271, 272, 273, 274, 39, 40, 41, 275, 276, 277, 278, 279, 280, 281, 282, 228, 569, 570, 571, 572, 573, 574, 575, 576, 577, 578, 601, 602, 595, 596, 597, 598, 599, 600] (by decide +kernel) (by decide +kernel)) (goodIn_sub (fun _ h => List.mem_append_left _ (List.mem_append_right _ h)) (by decide +kernel))
set_option maxRecDepth 20000 in
theorem gL_law_L_run : GoodIn wsL_law (va_wsS RL 122 yL_run wsL_run) := goodIn_app (goodIn_of _ (by decide +kernel)) ggL_law_L_run
set_option maxRecDepth 20000 in
theorem ggL_law_X4_run : GoodIn wsL_law wsX4_run := goodIn_r _ [406, 84, 342, 407, 408, 400, 401, 402, 61, 88, 89, 5, 90, 97, 98, 99, 100, 287, 288, 289, 290, 291, 292, 293, 294, 295, 296, 60, 59, 223, 297, 298, 299, 300, 301, 168, 302, 303, 304, 305, 56, 58, 306, 307, 308, 309, 57, 132, 133, 134, 94, 95, 96, 310, 311, 312, 313, 314, 315, 316, 317, 318, 233, 579, 580, 581, 582, 583, 584, 585, 586, 587, 588, 589, 590, 591, 592, 593, 594] (by decide +kernel) (by decide +kernel)
set_option maxRecDepth 20000 in
theorem gL_law_X4_run : GoodIn wsL_law (wsV RL 124 RX4 yX4_run wsX4_run) := goodIn_app (goodIn_of _ (by decide +kernel)) ggL_law_X4_run
set_option maxRecDepth 20000 in
theorem ggL_law_L_wind : GoodIn wsL_law wsL_wind := goodIn_ca (goodIn_r _ [411, 66, 412, 413, 414, 2, 415, 71, 72, 24, 398, 334, 335, 336, 23, 337, 42, 569, 570, 571, 572, 573, 574, 575, 576, 577, 578, 601, 602] (by decide +kernel) (by decide +kernel)) (goodIn_sub (fun _ h => List.mem_append_left _ (List.mem_append_left _ (List.mem_append_right _ h))) (by decide +kernel))
set_option maxRecDepth 20000 in
theorem gL_law_L_wind : GoodIn wsL_law (va_wsS RL 125 yL_wind wsL_wind) := goodIn_app (goodIn_of _ (by decide +kernel)) ggL_law_L_wind
set_option maxRecDepth 20000 in
theorem ggL_law_X4_wind : GoodIn wsL_law wsX4_wind := goodIn_r _ [419, 84, 342, 407, 88, 89, 5, 90, 97, 98, 99, 100, 579, 580, 581, 582, 583, 584, 585, 586, 587, 588, 589, 590, 591, 592, 593, 594] (by decide +kernel) (by decide +kernel)
set_option maxRecDepth 20000 in
theorem gL_law_X4_wind : GoodIn wsL_law (wsV RL 127 RX4 yX4_wind wsX4_wind) := goodIn_app (goodIn_of _ (by decide +kernel)) ggL_law_X4_wind
set_option maxRecDepth 20000 in
theorem ggL_law_L_tape : GoodIn wsL_law wsL_tape := goodIn_ca (goodIn_r _ [422, 66, 423, 424, 425, 2, 426, 71, 72, 24, 381, 188, 189, 23, 190, 42, 37, 365, 184, 185, 186, 187, 569, 570, 571, 572, 573, 574, 575, 576, 577, 578, 601, 602] (by decide +kernel) (by decide +kernel)) (goodIn_sub (fun _ h => List.mem_append_left _ (List.mem_append_left _ (List.mem_append_right _ h))) (by decide +kernel))
set_option maxRecDepth 20000 in
theorem gL_law_L_tape : GoodIn wsL_law (va_wsS RL 128 yL_tape wsL_tape) := goodIn_app (goodIn_of _ (by decide +kernel)) ggL_law_L_tape
set_option maxRecDepth 20000 in
theorem ggL_law_X4_tape : GoodIn wsL_law wsX4_tape := goodIn_r _ [430, 84, 61, 387, 388, 389, 5, 390, 342, 88, 89, 90, 97, 98, 99, 100, 579, 580, 581, 582, 583, 584, 585, 586, 587, 588, 589, 590, 591, 592, 593, 594] (by decide +kernel) (by decide +kernel)
set_option maxRecDepth 20000 in
theorem gL_law_X4_tape : GoodIn wsL_law (wsV RL 130 RX4 yX4_tape wsX4_tape) := goodIn_app (goodIn_of _ (by decide +kernel)) ggL_law_X4_tape
set_option maxRecDepth 20000 in
theorem ggL_law_L_page : GoodIn wsL_law wsL_page := goodIn_ca (goodIn_r _ [433, 66, 434, 435, 436, 2, 437, 71, 72, 20, 438, 263, 264, 19, 265, 49, 261, 48, 381, 188, 189, 23, 190, 42, 37, 365, 184, 185, 186, 187, 569, 570, 571, 572, 573, 574, 575, 576, 577, 578, 598, 599, 600, 601, 602] (by decide +kernel) (by decide +kernel)) (goodIn_sub (fun _ h => List.mem_append_left _ (List.mem_append_left _ (List.mem_append_right _ h))) (by decide +kernel))
set_option maxRecDepth 20000 in
theorem gL_law_L_page : GoodIn wsL_law (va_wsS RL 131 yL_page wsL_page) := goodIn_app (goodIn_of _ (by decide +kernel)) ggL_law_L_page
set_option maxRecDepth 20000 in
theorem ggL_law_X4_page : GoodIn wsL_law wsX4_page := goodIn_r _ [442, 84, 57, 58, 443, 444, 445, 5, 446, 56, 88, 89, 90, 97, 98, 99, 100, 579, 580, 581, 582, 583, 584, 585, 586, 587, 588, 589, 590, 591, 592, 593, 594] (by decide +kernel) (by decide +kernel)
set_option maxRecDepth 20000 in
theorem gL_law_X4_page : GoodIn wsL_law (wsV RL 133 RX4 yX4_page wsX4_page) := goodIn_app (goodIn_of _ (by decide +kernel)) ggL_law_X4_page
set_option maxRecDepth 20000 in
theorem ggL_law_L_length : GoodIn wsL_law wsL_length := goodIn_ca (goodIn_r _ [449, 66, 450, 451, 452, 2, 453, 71, 72, 20, 438, 263, 264, 19, 265, 49, 261, 48, 334, 335, 336, 23, 337, 42, 569, 570, 571, 572, 573, 574, 575, 576, 577, 578, 598, 599, 600, 601, 602] (by decide +kernel) (by decide +kernel)) (goodIn_sub (fun _ h => List.mem_append_left _ (List.mem_append_left _ (List.mem_append_right _ h))) (by decide +kernel))
set_option maxRecDepth 20000 in
theorem gL_law_L_length : GoodIn wsL_law (va_wsS RL 134 yL_length wsL_length) := goodIn_app (goodIn_of _ (by decide +kernel)) ggL_law_L_length
set_option maxRecDepth 20000 in
theorem ggL_law_X4_length : GoodIn wsL_law wsX4_length := goodIn_r _ [457, 84, 57, 443, 444, 445, 5, 446, 56, 88, 89, 90, 97, 98, 99, 100, 579, 580, 581, 582, 583, 584, 585, 586, 587, 588, 589, 590, 591, 592, 593, 594] (by decide +kernel) (by decide +kernel)
set_option maxRecDepth 20000 in
theorem gL_law_X4_length : GoodIn wsL_law (wsV RL 136 RX4 yX4_length wsX4_length) := goodIn_app (goodIn_of _ (by decide +kernel)) ggL_law_X4_length
set_option maxRecDepth 20000 in
theorem ggL_law_L_count : GoodIn wsL_law wsL_count := goodIn_ca (goodIn_r _ [460, 66, 461, 462, 463, 2, 464, 71, 72, 465, 466, 467, 468, 20, 163, 16, 24, 398, 245, 246, 255, 228, 256, 469, 470, 471, 19, 472, 49, 473, 474, 475, 476, 262, 263, 264, 265, 261, 48, 477, 335, 336, 23, 337, 42, 210, 211, 212, 15, 213, 214, 334, 569, 570, 571, 572, 573, 574, 575, 576, 577, 578, 598, 599, 600, 601, 602, 595, 596, 597] (by decide +kernel) (by decide +kernel)) (goodIn_sub (fun _ h => List.mem_append_left _ (List.mem_append_left _ (List.mem_append_right _ h))) (by decide +kernel))
set_option maxRecDepth 20000 in
theorem gL_law_L_count : GoodIn wsL_law (va_wsS RL 137 yL_count wsL_count) := goodIn_app (goodIn_of _ (by decide +kernel)) ggL_law_L_count
set_option maxRecDepth 20000 in
theorem ggL_law_X4_count : GoodIn wsL_law wsX4_count := goodIn_r _ [481, 84, 88, 89, 5, 90, 482, 483, 484, 485, 56, 57, 168, 223, 342, 407, 291, 292, 314, 233, 301, 97, 98, 99, 100, 579, 580, 581, 582, 583, 584, 585, 586, 587, 588, 589, 590, 591, 592, 593, 594] (by decide +kernel) (by decide +kernel)
set_option maxRecDepth 20000 in
theorem gL_law_X4_count : GoodIn wsL_law (wsV RL 139 RX4 yX4_count wsX4_count) := goodIn_app (goodIn_of _ (by decide +kernel)) ggL_law_X4_count
set_option maxRecDepth 20000 in
theorem ggL_law_L_would : GoodIn wsL_law wsL_would := goodIn_ca (goodIn_r _ [488, 66, 489, 490, 491, 2, 492, 71, 72, 16, 245, 112, 113, 114, 247, 248, 249, 15, 250, 31, 30, 214, 183, 184, 185, 23, 186, 37, 187, 188, 189, 190, 42, 569, 570, 571, 572, 573, 574, 575, 576, 577, 578, 595, 596, 597, 601, 602] (by decide +kernel) (by decide +kernel)) (goodIn_sub (fun _ h => List.mem_append_left _ (List.mem_append_left _ (List.mem_append_right _ h))) (by decide +kernel))
set_option maxRecDepth 20000 in
theorem gL_law_L_would : GoodIn wsL_law (va_wsS RL 140 yL_would wsL_would) := goodIn_app (goodIn_of _ (by decide +kernel)) ggL_law_L_would
set_option maxRecDepth 20000 in
theorem ggL_law_X4_would : GoodIn wsL_law wsX4_would := goodIn_r _ [496, 84, 291, 129, 130, 5, 131, 88, 89, 90, 293, 294, 295, 296, 60, 59, 223, 97, 98, 99, 100, 579, 580, 581, 582, 583, 584, 585, 586, 587, 588, 589, 590, 591, 592, 593, 594] (by decide +kernel) (by decide +kernel)
set_option maxRecDepth 20000 in
theorem gL_law_X4_would : GoodIn wsL_law (wsV RL 142 RX4 yX4_would wsX4_would) := goodIn_app (goodIn_of _ (by decide +kernel)) ggL_law_X4_would
set_option maxRecDepth 20000 in
theorem ggL_law_X3_wrong : GoodIn wsL_law wsX3_wrong := goodIn_r _ [500, 398, 24, 16, 245, 334, 335, 336, 23, 337, 42, 365, 184, 185, 186, 37, 187, 188, 189, 190, 247, 248, 249, 15, 250, 31, 30, 214, 183, 569, 570, 571, 572, 573, 574, 575, 576, 577, 578, 601, 602, 595, 596, 597] (by decide +kernel) (by decide +kernel)
set_option maxRecDepth 20000 in
theorem gL_law_X3_wrong : GoodIn wsL_law (wsV RL 143 RX3 yX3_wrong wsX3_wrong) := goodIn_app (goodIn_of _ (by decide +kernel)) ggL_law_X3_wrong
set_option maxRecDepth 20000 in
theorem ggL_law_X4_wrong : GoodIn wsL_law wsX4_wrong := goodIn_r _ [504, 84, 407, 342, 61, 291, 293, 294, 295, 5, 296, 60, 59, 223, 579, 580, 581, 582, 583, 584, 585, 586, 587, 588, 589, 590, 591, 592, 593, 594] (by decide +kernel) (by decide +kernel)
set_option maxRecDepth 20000 in
theorem gL_law_X4_wrong : GoodIn wsL_law (wsV RL 146 RX4 yX4_wrong wsX4_wrong) := goodIn_app (goodIn_of _ (by decide +kernel)) ggL_law_X4_wrong
set_option maxRecDepth 20000 in
theorem ggL_law_X3_idle : GoodIn wsL_law wsX3_idle := goodIn_r _ [508, 24, 334, 335, 336, 23, 337, 42, 365, 184, 185, 186, 37, 187, 188, 189, 190, 275, 276, 277, 2, 278, 279, 280, 281, 282, 228, 509, 510, 511, 512, 513, 514, 515, 122, 123, 124, 118, 119, 120, 121, 569, 570, 571, 572, 573, 574, 575, 576, 577, 578, 601, 602] (by decide +kernel) (by decide +kernel)
set_option maxRecDepth 20000 in
theorem gL_law_X3_idle : GoodIn wsL_law (wsV RL 147 RX3 yX3_idle wsX3_idle) := goodIn_app (goodIn_of _ (by decide +kernel)) ggL_law_X3_idle
set_option maxRecDepth 20000 in
theorem ggL_law_X4_idle : GoodIn wsL_law wsX4_idle := goodIn_r _ [519, 84, 342, 61, 520, 521, 522, 5, 523, 370, 371, 372, 373, 315, 316, 317, 318, 233, 524, 525, 526, 527, 94, 95, 96, 579, 580, 581, 582, 583, 584, 585, 586, 587, 588, 589, 590, 591, 592, 593, 594] (by decide +kernel) (by decide +kernel)
set_option maxRecDepth 20000 in
theorem gL_law_X4_idle : GoodIn wsL_law (wsV RL 150 RX4 yX4_idle wsX4_idle) := goodIn_app (goodIn_of _ (by decide +kernel)) ggL_law_X4_idle
set_option maxRecDepth 20000 in
theorem ggL_law_L_prints : GoodIn wsL_law wsL_prints := goodIn_ca (goodIn_r _ [530, 66, 531, 532, 533, 2, 534, 71, 72, 24, 381, 188, 189, 23, 190, 42, 37, 365, 184, 185, 186, 187, 361, 362, 363, 364, 334, 335, 336, 337, 275, 276, 277, 278, 279, 280, 281, 282, 228, 115, 116, 117, 118, 119, 120, 121, 122, 123, 124, 569, 570, 571, 572, 573, 574, 575, 576, 577, 578, 601, 602] (by decide +kernel) (by decide +kernel)) (goodIn_sub (fun _ h => List.mem_append_left _ (List.mem_append_left _ (List.mem_append_right _ h))) (by decide +kernel))
set_option maxRecDepth 20000 in
theorem gL_law_L_prints : GoodIn wsL_law (va_wsS RL 151 yL_prints wsL_prints) := goodIn_app (goodIn_of _ (by decide +kernel)) ggL_law_L_prints
set_option maxRecDepth 20000 in
theorem ggL_law_X4_prints : GoodIn wsL_law wsX4_prints := goodIn_r _ [538, 84, 61, 387, 388, 389, 5, 390, 342, 88, 89, 90, 370, 371, 372, 373, 315, 316, 317, 318, 233, 132, 133, 134, 94, 95, 96, 97, 98, 99, 100, 579, 580, 581, 582, 583, 584, 585, 586, 587, 588, 589, 590, 591, 592, 593, 594] (by decide +kernel) (by decide +kernel)
set_option maxRecDepth 20000 in
theorem gL_law_X4_prints : GoodIn wsL_law (wsV RL 153 RX4 yX4_prints wsX4_prints) := goodIn_app (goodIn_of _ (by decide +kernel)) ggL_law_X4_prints
set_option maxRecDepth 20000 in
theorem ggL_law_X3_mean : GoodIn wsL_law wsX3_mean := goodIn_r _ [542, 20, 469, 470, 471, 19, 472, 49, 473, 474, 475, 476, 262, 263, 264, 265, 261, 48, 477, 335, 336, 23, 337, 42, 569, 570, 571, 572, 573, 574, 575, 576, 577, 578, 598, 599, 600, 601, 602] (by decide +kernel) (by decide +kernel)
set_option maxRecDepth 20000 in
theorem gL_law_X3_mean : GoodIn wsL_law (wsV RL 154 RX3 yX3_mean wsX3_mean) := goodIn_app (goodIn_of _ (by decide +kernel)) ggL_law_X3_mean
set_option maxRecDepth 20000 in
theorem ggL_law_X4_mean : GoodIn wsL_law wsX4_mean := goodIn_r _ [546, 84, 56, 482, 483, 484, 5, 485, 57, 168, 223, 342, 407, 291, 292, 314, 233, 301, 579, 580, 581, 582, 583, 584, 585, 586, 587, 588, 589, 590, 591, 592, 593, 594] (by decide +kernel) (by decide +kernel)
set_option maxRecDepth 20000 in
theorem gL_law_X4_mean : GoodIn wsL_law (wsV RL 158 RX4 yX4_mean wsX4_mean) := goodIn_app (goodIn_of _ (by decide +kernel)) ggL_law_X4_mean
set_option maxRecDepth 20000 in
theorem ggL_law_X3_digest : GoodIn wsL_law wsX3_digest := goodIn_r _ [550, 551, 16, 20, 24, 465, 466, 467, 2, 468, 163, 398, 245, 246, 255, 228, 256, 469, 470, 471, 19, 472, 49, 473, 474, 475, 476, 262, 263, 264, 265, 261, 48, 477, 335, 336, 23, 337, 42, 210, 211, 212, 15, 213, 214, 334, 552, 553, 554, 555, 179, 180, 181, 182, 30, 183, 184, 185, 186, 37, 187, 188, 189, 190, 556, 557, 558, 559, 31, 438, 560, 561, 562, 365, 569, 570, 571, 572, 573, 574, 575, 576, 577, 578, 598, 599, 600, 601, 602, 595, 596, 597] (by decide +kernel) (by decide +kernel)
set_option maxRecDepth 20000 in
theorem gL_law_X3_digest : GoodIn wsL_law (wsV RL 159 RX3 yX3_digest wsX3_digest) := goodIn_app (goodIn_of _ (by decide +kernel)) ggL_law_X3_digest
set_option maxRecDepth 20000 in
theorem ggL_law_X4_digest : GoodIn wsL_law wsX4_digest := goodIn_r _ [566, 84, 567, 568, 59, 60, 56, 57, 58, 342, 61, 482, 483, 484, 5, 485, 168, 223, 407, 291, 292, 314, 233, 301, 579, 580, 581, 582, 583, 584, 585, 586, 587, 588, 589, 590, 591, 592, 593, 594] (by decide +kernel) (by decide +kernel)
set_option maxRecDepth 20000 in
theorem gL_law_X4_digest : GoodIn wsL_law (wsV RL 163 RX4 yX4_digest wsX4_digest) := goodIn_app (goodIn_of _ (by decide +kernel)) ggL_law_X4_digest
theorem dL_law_0 : decode cL_law 0 = .ok (.new 8, 3) := by decide +kernel
theorem dL_law_3 : decode cL_law 3 = .ok (.dup, 1) := by decide +kernel
theorem dL_law_4 : decode cL_law 4 = .ok (.invokespecial 73, 3) := by decide +kernel
theorem dL_law_7 : decode cL_law 7 = .ok (.astore_n 1, 1) := by decide +kernel
theorem dL_law_8 : decode cL_law 8 = .ok (.new 74, 3) := by decide +kernel
theorem dL_law_11 : decode cL_law 11 = .ok (.dup, 1) := by decide +kernel
theorem dL_law_12 : decode cL_law 12 = .ok (.invokespecial 76, 3) := by decide +kernel
theorem dL_law_15 : decode cL_law 15 = .ok (.astore_n 2, 1) := by decide +kernel
theorem dL_law_16 : decode cL_law 16 = .ok (.iconst 1, 1) := by decide +kernel
theorem dL_law_17 : decode cL_law 17 = .ok (.newarray .long, 2) := by decide +kernel
theorem dL_law_19 : decode cL_law 19 = .ok (.astore_n 3, 1) := by decide +kernel
theorem dL_law_20 : decode cL_law 20 = .ok (.iconst 0, 1) := by decide +kernel
theorem dL_law_21 : decode cL_law 21 = .ok (.istore 4, 2) := by decide +kernel
theorem dL_law_23 : decode cL_law 23 = .ok (.iload 4, 2) := by decide +kernel
theorem dL_law_25 : decode cL_law 25 = .ok (.aload_n 0, 1) := by decide +kernel
theorem dL_law_26 : decode cL_law 26 = .ok (.arraylength, 1) := by decide +kernel
theorem dL_law_27 : decode cL_law 27 = .ok (.iconst 4, 1) := by decide +kernel
theorem dL_law_28 : decode cL_law 28 = .ok (.isub, 1) := by decide +kernel
theorem dL_law_29 : decode cL_law 29 = .ok (.if_icmp .gt 1327, 3) := by decide +kernel
theorem dL_law_32 : decode cL_law 32 = .ok (.aload_n 0, 1) := by decide +kernel
theorem dL_law_33 : decode cL_law 33 = .ok (.iload 4, 2) := by decide +kernel
theorem dL_law_35 : decode cL_law 35 = .ok (.iaload, 1) := by decide +kernel
theorem dL_law_36 : decode cL_law 36 = .ok (.bipush 31, 2) := by decide +kernel
theorem dL_law_38 : decode cL_law 38 = .ok (.iand, 1) := by decide +kernel
theorem dL_law_39 : decode cL_law 39 = .ok (.tableswitch 1311 0 22 #[105, 161, 245, 313, 369, 449, 505, 546, 602, 658, 714, 770, 826, 882, 938, 1006, 1062, 1118, 1174, 1187, 1200, 1256, 1297], 105) := by decide +kernel
theorem dL_law_144 : decode cL_law 144 = .ok (.aload_n 1, 1) := by decide +kernel
theorem dL_law_145 : decode cL_law 145 = .ok (.aload_n 0, 1) := by decide +kernel
theorem dL_law_146 : decode cL_law 146 = .ok (.iload 4, 2) := by decide +kernel
theorem dL_law_148 : decode cL_law 148 = .ok (.iconst 1, 1) := by decide +kernel
theorem dL_law_149 : decode cL_law 149 = .ok (.iadd, 1) := by decide +kernel
theorem dL_law_150 : decode cL_law 150 = .ok (.iaload, 1) := by decide +kernel
theorem dL_law_151 : decode cL_law 151 = .ok (.aload_n 3, 1) := by decide +kernel
theorem dL_law_152 : decode cL_law 152 = .ok (.invokestatic 77, 3) := by decide +kernel
theorem dL_law_155 : decode cL_law 155 = .ok (.istore 5, 2) := by decide +kernel
theorem dL_law_157 : decode cL_law 157 = .ok (.aload_n 2, 1) := by decide +kernel
theorem dL_law_158 : decode cL_law 158 = .ok (.aload_n 0, 1) := by decide +kernel
theorem dL_law_159 : decode cL_law 159 = .ok (.iload 4, 2) := by decide +kernel
theorem dL_law_161 : decode cL_law 161 = .ok (.iconst 1, 1) := by decide +kernel
theorem dL_law_162 : decode cL_law 162 = .ok (.iadd, 1) := by decide +kernel
theorem dL_law_163 : decode cL_law 163 = .ok (.iaload, 1) := by decide +kernel
theorem dL_law_164 : decode cL_law 164 = .ok (.invokevirtual 82, 3) := by decide +kernel
theorem dL_law_167 : decode cL_law 167 = .ok (.istore 6, 2) := by decide +kernel
theorem dL_law_169 : decode cL_law 169 = .ok (.aload_n 2, 1) := by decide +kernel
theorem dL_law_170 : decode cL_law 170 = .ok (.invokevirtual 83, 3) := by decide +kernel
theorem dL_law_173 : decode cL_law 173 = .ok (.iload 5, 2) := by decide +kernel
theorem dL_law_175 : decode cL_law 175 = .ok (.if_icmp .eq 5, 3) := by decide +kernel
theorem dL_law_178 : decode cL_law 178 = .ok (.iconst 0, 1) := by decide +kernel
theorem dL_law_179 : decode cL_law 179 = .ok (.ireturn, 1) := by decide +kernel
theorem dL_law_180 : decode cL_law 180 = .ok (.iload 5, 2) := by decide +kernel
theorem dL_law_182 : decode cL_law 182 = .ok (.ifCond .ne 15, 3) := by decide +kernel
theorem dL_law_185 : decode cL_law 185 = .ok (.aload_n 3, 1) := by decide +kernel
theorem dL_law_186 : decode cL_law 186 = .ok (.iconst 0, 1) := by decide +kernel
theorem dL_law_187 : decode cL_law 187 = .ok (.laload, 1) := by decide +kernel
theorem dL_law_188 : decode cL_law 188 = .ok (.iload 6, 2) := by decide +kernel
theorem dL_law_190 : decode cL_law 190 = .ok (.i2l, 1) := by decide +kernel
theorem dL_law_191 : decode cL_law 191 = .ok (.lcmp, 1) := by decide +kernel
theorem dL_law_192 : decode cL_law 192 = .ok (.ifCond .eq 5, 3) := by decide +kernel
theorem dL_law_195 : decode cL_law 195 = .ok (.iconst 0, 1) := by decide +kernel
theorem dL_law_196 : decode cL_law 196 = .ok (.ireturn, 1) := by decide +kernel
theorem dL_law_197 : decode cL_law 197 = .ok (.goto 1153, 3) := by decide +kernel
theorem dL_law_200 : decode cL_law 200 = .ok (.aload_n 1, 1) := by decide +kernel
theorem dL_law_201 : decode cL_law 201 = .ok (.aload_n 0, 1) := by decide +kernel
theorem dL_law_202 : decode cL_law 202 = .ok (.iload 4, 2) := by decide +kernel
theorem dL_law_204 : decode cL_law 204 = .ok (.iconst 1, 1) := by decide +kernel
theorem dL_law_205 : decode cL_law 205 = .ok (.iadd, 1) := by decide +kernel
theorem dL_law_206 : decode cL_law 206 = .ok (.iaload, 1) := by decide +kernel
theorem dL_law_207 : decode cL_law 207 = .ok (.aload_n 0, 1) := by decide +kernel
theorem dL_law_208 : decode cL_law 208 = .ok (.iload 4, 2) := by decide +kernel
theorem dL_law_210 : decode cL_law 210 = .ok (.iconst 2, 1) := by decide +kernel
theorem dL_law_211 : decode cL_law 211 = .ok (.iadd, 1) := by decide +kernel
theorem dL_law_212 : decode cL_law 212 = .ok (.iaload, 1) := by decide +kernel
theorem dL_law_213 : decode cL_law 213 = .ok (.ifCond .eq 7, 3) := by decide +kernel
theorem dL_law_216 : decode cL_law 216 = .ok (.iconst 1, 1) := by decide +kernel
theorem dL_law_217 : decode cL_law 217 = .ok (.goto 4, 3) := by decide +kernel
theorem dL_law_220 : decode cL_law 220 = .ok (.iconst 0, 1) := by decide +kernel
theorem dL_law_221 : decode cL_law 221 = .ok (.aload_n 3, 1) := by decide +kernel
theorem dL_law_222 : decode cL_law 222 = .ok (.invokestatic 87, 3) := by decide +kernel
theorem dL_law_225 : decode cL_law 225 = .ok (.istore 5, 2) := by decide +kernel
theorem dL_law_227 : decode cL_law 227 = .ok (.aload_n 2, 1) := by decide +kernel
theorem dL_law_228 : decode cL_law 228 = .ok (.aload_n 0, 1) := by decide +kernel
theorem dL_law_229 : decode cL_law 229 = .ok (.iload 4, 2) := by decide +kernel
theorem dL_law_231 : decode cL_law 231 = .ok (.iconst 1, 1) := by decide +kernel
theorem dL_law_232 : decode cL_law 232 = .ok (.iadd, 1) := by decide +kernel
theorem dL_law_233 : decode cL_law 233 = .ok (.iaload, 1) := by decide +kernel
theorem dL_law_234 : decode cL_law 234 = .ok (.aload_n 0, 1) := by decide +kernel
theorem dL_law_235 : decode cL_law 235 = .ok (.iload 4, 2) := by decide +kernel
theorem dL_law_237 : decode cL_law 237 = .ok (.iconst 2, 1) := by decide +kernel
theorem dL_law_238 : decode cL_law 238 = .ok (.iadd, 1) := by decide +kernel
theorem dL_law_239 : decode cL_law 239 = .ok (.iaload, 1) := by decide +kernel
theorem dL_law_240 : decode cL_law 240 = .ok (.ifCond .eq 7, 3) := by decide +kernel
theorem dL_law_243 : decode cL_law 243 = .ok (.iconst 1, 1) := by decide +kernel
theorem dL_law_244 : decode cL_law 244 = .ok (.goto 4, 3) := by decide +kernel
theorem dL_law_247 : decode cL_law 247 = .ok (.iconst 0, 1) := by decide +kernel
theorem dL_law_248 : decode cL_law 248 = .ok (.invokevirtual 90, 3) := by decide +kernel
theorem dL_law_251 : decode cL_law 251 = .ok (.istore 6, 2) := by decide +kernel
theorem dL_law_253 : decode cL_law 253 = .ok (.aload_n 2, 1) := by decide +kernel
theorem dL_law_254 : decode cL_law 254 = .ok (.invokevirtual 83, 3) := by decide +kernel
theorem dL_law_257 : decode cL_law 257 = .ok (.iload 5, 2) := by decide +kernel
theorem dL_law_259 : decode cL_law 259 = .ok (.if_icmp .eq 5, 3) := by decide +kernel
theorem dL_law_262 : decode cL_law 262 = .ok (.iconst 0, 1) := by decide +kernel
theorem dL_law_263 : decode cL_law 263 = .ok (.ireturn, 1) := by decide +kernel
theorem dL_law_264 : decode cL_law 264 = .ok (.iload 5, 2) := by decide +kernel
theorem dL_law_266 : decode cL_law 266 = .ok (.ifCond .ne 15, 3) := by decide +kernel
theorem dL_law_269 : decode cL_law 269 = .ok (.aload_n 3, 1) := by decide +kernel
theorem dL_law_270 : decode cL_law 270 = .ok (.iconst 0, 1) := by decide +kernel
theorem dL_law_271 : decode cL_law 271 = .ok (.laload, 1) := by decide +kernel
theorem dL_law_272 : decode cL_law 272 = .ok (.iload 6, 2) := by decide +kernel
theorem dL_law_274 : decode cL_law 274 = .ok (.i2l, 1) := by decide +kernel
theorem dL_law_275 : decode cL_law 275 = .ok (.lcmp, 1) := by decide +kernel
theorem dL_law_276 : decode cL_law 276 = .ok (.ifCond .eq 5, 3) := by decide +kernel
theorem dL_law_279 : decode cL_law 279 = .ok (.iconst 0, 1) := by decide +kernel
theorem dL_law_280 : decode cL_law 280 = .ok (.ireturn, 1) := by decide +kernel
theorem dL_law_281 : decode cL_law 281 = .ok (.goto 1069, 3) := by decide +kernel
theorem dL_law_284 : decode cL_law 284 = .ok (.aload_n 1, 1) := by decide +kernel
theorem dL_law_285 : decode cL_law 285 = .ok (.aload_n 0, 1) := by decide +kernel
theorem dL_law_286 : decode cL_law 286 = .ok (.iload 4, 2) := by decide +kernel
theorem dL_law_288 : decode cL_law 288 = .ok (.iconst 1, 1) := by decide +kernel
theorem dL_law_289 : decode cL_law 289 = .ok (.iadd, 1) := by decide +kernel
theorem dL_law_290 : decode cL_law 290 = .ok (.iaload, 1) := by decide +kernel
theorem dL_law_291 : decode cL_law 291 = .ok (.aload_n 0, 1) := by decide +kernel
theorem dL_law_292 : decode cL_law 292 = .ok (.iload 4, 2) := by decide +kernel
theorem dL_law_294 : decode cL_law 294 = .ok (.iconst 2, 1) := by decide +kernel
theorem dL_law_295 : decode cL_law 295 = .ok (.iadd, 1) := by decide +kernel
theorem dL_law_296 : decode cL_law 296 = .ok (.iaload, 1) := by decide +kernel
theorem dL_law_297 : decode cL_law 297 = .ok (.aload_n 3, 1) := by decide +kernel
theorem dL_law_298 : decode cL_law 298 = .ok (.invokestatic 91, 3) := by decide +kernel
theorem dL_law_301 : decode cL_law 301 = .ok (.istore 5, 2) := by decide +kernel
theorem dL_law_303 : decode cL_law 303 = .ok (.aload_n 2, 1) := by decide +kernel
theorem dL_law_304 : decode cL_law 304 = .ok (.aload_n 0, 1) := by decide +kernel
theorem dL_law_305 : decode cL_law 305 = .ok (.iload 4, 2) := by decide +kernel
theorem dL_law_307 : decode cL_law 307 = .ok (.iconst 1, 1) := by decide +kernel
theorem dL_law_308 : decode cL_law 308 = .ok (.iadd, 1) := by decide +kernel
theorem dL_law_309 : decode cL_law 309 = .ok (.iaload, 1) := by decide +kernel
theorem dL_law_310 : decode cL_law 310 = .ok (.aload_n 0, 1) := by decide +kernel
theorem dL_law_311 : decode cL_law 311 = .ok (.iload 4, 2) := by decide +kernel
theorem dL_law_313 : decode cL_law 313 = .ok (.iconst 2, 1) := by decide +kernel
theorem dL_law_314 : decode cL_law 314 = .ok (.iadd, 1) := by decide +kernel
theorem dL_law_315 : decode cL_law 315 = .ok (.iaload, 1) := by decide +kernel
theorem dL_law_316 : decode cL_law 316 = .ok (.invokevirtual 94, 3) := by decide +kernel
theorem dL_law_319 : decode cL_law 319 = .ok (.istore 6, 2) := by decide +kernel
theorem dL_law_321 : decode cL_law 321 = .ok (.aload_n 2, 1) := by decide +kernel
theorem dL_law_322 : decode cL_law 322 = .ok (.invokevirtual 83, 3) := by decide +kernel
theorem dL_law_325 : decode cL_law 325 = .ok (.iload 5, 2) := by decide +kernel
theorem dL_law_327 : decode cL_law 327 = .ok (.if_icmp .eq 5, 3) := by decide +kernel
theorem dL_law_330 : decode cL_law 330 = .ok (.iconst 0, 1) := by decide +kernel
theorem dL_law_331 : decode cL_law 331 = .ok (.ireturn, 1) := by decide +kernel
theorem dL_law_332 : decode cL_law 332 = .ok (.iload 5, 2) := by decide +kernel
theorem dL_law_334 : decode cL_law 334 = .ok (.ifCond .ne 15, 3) := by decide +kernel
theorem dL_law_337 : decode cL_law 337 = .ok (.aload_n 3, 1) := by decide +kernel
theorem dL_law_338 : decode cL_law 338 = .ok (.iconst 0, 1) := by decide +kernel
theorem dL_law_339 : decode cL_law 339 = .ok (.laload, 1) := by decide +kernel
theorem dL_law_340 : decode cL_law 340 = .ok (.iload 6, 2) := by decide +kernel
theorem dL_law_342 : decode cL_law 342 = .ok (.i2l, 1) := by decide +kernel
theorem dL_law_343 : decode cL_law 343 = .ok (.lcmp, 1) := by decide +kernel
theorem dL_law_344 : decode cL_law 344 = .ok (.ifCond .eq 5, 3) := by decide +kernel
theorem dL_law_347 : decode cL_law 347 = .ok (.iconst 0, 1) := by decide +kernel
theorem dL_law_348 : decode cL_law 348 = .ok (.ireturn, 1) := by decide +kernel
theorem dL_law_349 : decode cL_law 349 = .ok (.goto 1001, 3) := by decide +kernel
theorem dL_law_352 : decode cL_law 352 = .ok (.aload_n 1, 1) := by decide +kernel
theorem dL_law_353 : decode cL_law 353 = .ok (.aload_n 0, 1) := by decide +kernel
theorem dL_law_354 : decode cL_law 354 = .ok (.iload 4, 2) := by decide +kernel
theorem dL_law_356 : decode cL_law 356 = .ok (.iconst 1, 1) := by decide +kernel
theorem dL_law_357 : decode cL_law 357 = .ok (.iadd, 1) := by decide +kernel
theorem dL_law_358 : decode cL_law 358 = .ok (.iaload, 1) := by decide +kernel
theorem dL_law_359 : decode cL_law 359 = .ok (.aload_n 3, 1) := by decide +kernel
theorem dL_law_360 : decode cL_law 360 = .ok (.invokestatic 95, 3) := by decide +kernel
theorem dL_law_363 : decode cL_law 363 = .ok (.istore 5, 2) := by decide +kernel
theorem dL_law_365 : decode cL_law 365 = .ok (.aload_n 2, 1) := by decide +kernel
theorem dL_law_366 : decode cL_law 366 = .ok (.aload_n 0, 1) := by decide +kernel
theorem dL_law_367 : decode cL_law 367 = .ok (.iload 4, 2) := by decide +kernel
theorem dL_law_369 : decode cL_law 369 = .ok (.iconst 1, 1) := by decide +kernel
theorem dL_law_370 : decode cL_law 370 = .ok (.iadd, 1) := by decide +kernel
theorem dL_law_371 : decode cL_law 371 = .ok (.iaload, 1) := by decide +kernel
theorem dL_law_372 : decode cL_law 372 = .ok (.invokevirtual 97, 3) := by decide +kernel
theorem dL_law_375 : decode cL_law 375 = .ok (.istore 6, 2) := by decide +kernel
theorem dL_law_377 : decode cL_law 377 = .ok (.aload_n 2, 1) := by decide +kernel
theorem dL_law_378 : decode cL_law 378 = .ok (.invokevirtual 83, 3) := by decide +kernel
theorem dL_law_381 : decode cL_law 381 = .ok (.iload 5, 2) := by decide +kernel
theorem dL_law_383 : decode cL_law 383 = .ok (.if_icmp .eq 5, 3) := by decide +kernel
theorem dL_law_386 : decode cL_law 386 = .ok (.iconst 0, 1) := by decide +kernel
theorem dL_law_387 : decode cL_law 387 = .ok (.ireturn, 1) := by decide +kernel
theorem dL_law_388 : decode cL_law 388 = .ok (.iload 5, 2) := by decide +kernel
theorem dL_law_390 : decode cL_law 390 = .ok (.ifCond .ne 15, 3) := by decide +kernel
theorem dL_law_393 : decode cL_law 393 = .ok (.aload_n 3, 1) := by decide +kernel
theorem dL_law_394 : decode cL_law 394 = .ok (.iconst 0, 1) := by decide +kernel
theorem dL_law_395 : decode cL_law 395 = .ok (.laload, 1) := by decide +kernel
theorem dL_law_396 : decode cL_law 396 = .ok (.iload 6, 2) := by decide +kernel
theorem dL_law_398 : decode cL_law 398 = .ok (.i2l, 1) := by decide +kernel
theorem dL_law_399 : decode cL_law 399 = .ok (.lcmp, 1) := by decide +kernel
theorem dL_law_400 : decode cL_law 400 = .ok (.ifCond .eq 5, 3) := by decide +kernel
theorem dL_law_403 : decode cL_law 403 = .ok (.iconst 0, 1) := by decide +kernel
theorem dL_law_404 : decode cL_law 404 = .ok (.ireturn, 1) := by decide +kernel
theorem dL_law_405 : decode cL_law 405 = .ok (.goto 945, 3) := by decide +kernel
theorem dL_law_408 : decode cL_law 408 = .ok (.aload_n 1, 1) := by decide +kernel
theorem dL_law_409 : decode cL_law 409 = .ok (.aload_n 0, 1) := by decide +kernel
theorem dL_law_410 : decode cL_law 410 = .ok (.iload 4, 2) := by decide +kernel
theorem dL_law_412 : decode cL_law 412 = .ok (.iconst 1, 1) := by decide +kernel
theorem dL_law_413 : decode cL_law 413 = .ok (.iadd, 1) := by decide +kernel
theorem dL_law_414 : decode cL_law 414 = .ok (.iaload, 1) := by decide +kernel
theorem dL_law_415 : decode cL_law 415 = .ok (.aload_n 0, 1) := by decide +kernel
theorem dL_law_416 : decode cL_law 416 = .ok (.iload 4, 2) := by decide +kernel
theorem dL_law_418 : decode cL_law 418 = .ok (.iconst 2, 1) := by decide +kernel
theorem dL_law_419 : decode cL_law 419 = .ok (.iadd, 1) := by decide +kernel
theorem dL_law_420 : decode cL_law 420 = .ok (.iaload, 1) := by decide +kernel
theorem dL_law_421 : decode cL_law 421 = .ok (.aload_n 0, 1) := by decide +kernel
theorem dL_law_422 : decode cL_law 422 = .ok (.iload 4, 2) := by decide +kernel
theorem dL_law_424 : decode cL_law 424 = .ok (.iconst 3, 1) := by decide +kernel
theorem dL_law_425 : decode cL_law 425 = .ok (.iadd, 1) := by decide +kernel
theorem dL_law_426 : decode cL_law 426 = .ok (.iaload, 1) := by decide +kernel
theorem dL_law_427 : decode cL_law 427 = .ok (.aload_n 3, 1) := by decide +kernel
theorem dL_law_428 : decode cL_law 428 = .ok (.invokestatic 98, 3) := by decide +kernel
theorem dL_law_431 : decode cL_law 431 = .ok (.istore 5, 2) := by decide +kernel
theorem dL_law_433 : decode cL_law 433 = .ok (.aload_n 2, 1) := by decide +kernel
theorem dL_law_434 : decode cL_law 434 = .ok (.aload_n 0, 1) := by decide +kernel
theorem dL_law_435 : decode cL_law 435 = .ok (.iload 4, 2) := by decide +kernel
theorem dL_law_437 : decode cL_law 437 = .ok (.iconst 1, 1) := by decide +kernel
theorem dL_law_438 : decode cL_law 438 = .ok (.iadd, 1) := by decide +kernel
theorem dL_law_439 : decode cL_law 439 = .ok (.iaload, 1) := by decide +kernel
theorem dL_law_440 : decode cL_law 440 = .ok (.aload_n 0, 1) := by decide +kernel
theorem dL_law_441 : decode cL_law 441 = .ok (.iload 4, 2) := by decide +kernel
theorem dL_law_443 : decode cL_law 443 = .ok (.iconst 2, 1) := by decide +kernel
theorem dL_law_444 : decode cL_law 444 = .ok (.iadd, 1) := by decide +kernel
theorem dL_law_445 : decode cL_law 445 = .ok (.iaload, 1) := by decide +kernel
theorem dL_law_446 : decode cL_law 446 = .ok (.aload_n 0, 1) := by decide +kernel
theorem dL_law_447 : decode cL_law 447 = .ok (.iload 4, 2) := by decide +kernel
theorem dL_law_449 : decode cL_law 449 = .ok (.iconst 3, 1) := by decide +kernel
theorem dL_law_450 : decode cL_law 450 = .ok (.iadd, 1) := by decide +kernel
theorem dL_law_451 : decode cL_law 451 = .ok (.iaload, 1) := by decide +kernel
theorem dL_law_452 : decode cL_law 452 = .ok (.invokevirtual 101, 3) := by decide +kernel
theorem dL_law_455 : decode cL_law 455 = .ok (.istore 6, 2) := by decide +kernel
theorem dL_law_457 : decode cL_law 457 = .ok (.aload_n 2, 1) := by decide +kernel
theorem dL_law_458 : decode cL_law 458 = .ok (.invokevirtual 83, 3) := by decide +kernel
theorem dL_law_461 : decode cL_law 461 = .ok (.iload 5, 2) := by decide +kernel
theorem dL_law_463 : decode cL_law 463 = .ok (.if_icmp .eq 5, 3) := by decide +kernel
theorem dL_law_466 : decode cL_law 466 = .ok (.iconst 0, 1) := by decide +kernel
theorem dL_law_467 : decode cL_law 467 = .ok (.ireturn, 1) := by decide +kernel
theorem dL_law_468 : decode cL_law 468 = .ok (.iload 5, 2) := by decide +kernel
theorem dL_law_470 : decode cL_law 470 = .ok (.ifCond .ne 15, 3) := by decide +kernel
theorem dL_law_473 : decode cL_law 473 = .ok (.aload_n 3, 1) := by decide +kernel
theorem dL_law_474 : decode cL_law 474 = .ok (.iconst 0, 1) := by decide +kernel
theorem dL_law_475 : decode cL_law 475 = .ok (.laload, 1) := by decide +kernel
theorem dL_law_476 : decode cL_law 476 = .ok (.iload 6, 2) := by decide +kernel
theorem dL_law_478 : decode cL_law 478 = .ok (.i2l, 1) := by decide +kernel
theorem dL_law_479 : decode cL_law 479 = .ok (.lcmp, 1) := by decide +kernel
theorem dL_law_480 : decode cL_law 480 = .ok (.ifCond .eq 5, 3) := by decide +kernel
theorem dL_law_483 : decode cL_law 483 = .ok (.iconst 0, 1) := by decide +kernel
theorem dL_law_484 : decode cL_law 484 = .ok (.ireturn, 1) := by decide +kernel
theorem dL_law_485 : decode cL_law 485 = .ok (.goto 865, 3) := by decide +kernel
theorem dL_law_488 : decode cL_law 488 = .ok (.aload_n 1, 1) := by decide +kernel
theorem dL_law_489 : decode cL_law 489 = .ok (.aload_n 0, 1) := by decide +kernel
theorem dL_law_490 : decode cL_law 490 = .ok (.iload 4, 2) := by decide +kernel
theorem dL_law_492 : decode cL_law 492 = .ok (.iconst 1, 1) := by decide +kernel
theorem dL_law_493 : decode cL_law 493 = .ok (.iadd, 1) := by decide +kernel
theorem dL_law_494 : decode cL_law 494 = .ok (.iaload, 1) := by decide +kernel
theorem dL_law_495 : decode cL_law 495 = .ok (.aload_n 3, 1) := by decide +kernel
theorem dL_law_496 : decode cL_law 496 = .ok (.invokestatic 102, 3) := by decide +kernel
theorem dL_law_499 : decode cL_law 499 = .ok (.istore 5, 2) := by decide +kernel
theorem dL_law_501 : decode cL_law 501 = .ok (.aload_n 2, 1) := by decide +kernel
theorem dL_law_502 : decode cL_law 502 = .ok (.aload_n 0, 1) := by decide +kernel
theorem dL_law_503 : decode cL_law 503 = .ok (.iload 4, 2) := by decide +kernel
theorem dL_law_505 : decode cL_law 505 = .ok (.iconst 1, 1) := by decide +kernel
theorem dL_law_506 : decode cL_law 506 = .ok (.iadd, 1) := by decide +kernel
theorem dL_law_507 : decode cL_law 507 = .ok (.iaload, 1) := by decide +kernel
theorem dL_law_508 : decode cL_law 508 = .ok (.invokevirtual 104, 3) := by decide +kernel
theorem dL_law_511 : decode cL_law 511 = .ok (.istore 6, 2) := by decide +kernel
theorem dL_law_513 : decode cL_law 513 = .ok (.aload_n 2, 1) := by decide +kernel
theorem dL_law_514 : decode cL_law 514 = .ok (.invokevirtual 83, 3) := by decide +kernel
theorem dL_law_517 : decode cL_law 517 = .ok (.iload 5, 2) := by decide +kernel
theorem dL_law_519 : decode cL_law 519 = .ok (.if_icmp .eq 5, 3) := by decide +kernel
theorem dL_law_522 : decode cL_law 522 = .ok (.iconst 0, 1) := by decide +kernel
theorem dL_law_523 : decode cL_law 523 = .ok (.ireturn, 1) := by decide +kernel
theorem dL_law_524 : decode cL_law 524 = .ok (.iload 5, 2) := by decide +kernel
theorem dL_law_526 : decode cL_law 526 = .ok (.ifCond .ne 15, 3) := by decide +kernel
theorem dL_law_529 : decode cL_law 529 = .ok (.aload_n 3, 1) := by decide +kernel
theorem dL_law_530 : decode cL_law 530 = .ok (.iconst 0, 1) := by decide +kernel
theorem dL_law_531 : decode cL_law 531 = .ok (.laload, 1) := by decide +kernel
theorem dL_law_532 : decode cL_law 532 = .ok (.iload 6, 2) := by decide +kernel
theorem dL_law_534 : decode cL_law 534 = .ok (.i2l, 1) := by decide +kernel
theorem dL_law_535 : decode cL_law 535 = .ok (.lcmp, 1) := by decide +kernel
theorem dL_law_536 : decode cL_law 536 = .ok (.ifCond .eq 5, 3) := by decide +kernel
theorem dL_law_539 : decode cL_law 539 = .ok (.iconst 0, 1) := by decide +kernel
theorem dL_law_540 : decode cL_law 540 = .ok (.ireturn, 1) := by decide +kernel
theorem dL_law_541 : decode cL_law 541 = .ok (.goto 809, 3) := by decide +kernel
theorem dL_law_544 : decode cL_law 544 = .ok (.aload_n 1, 1) := by decide +kernel
theorem dL_law_545 : decode cL_law 545 = .ok (.aload_n 0, 1) := by decide +kernel
theorem dL_law_546 : decode cL_law 546 = .ok (.iload 4, 2) := by decide +kernel
theorem dL_law_548 : decode cL_law 548 = .ok (.iconst 1, 1) := by decide +kernel
theorem dL_law_549 : decode cL_law 549 = .ok (.iadd, 1) := by decide +kernel
theorem dL_law_550 : decode cL_law 550 = .ok (.iaload, 1) := by decide +kernel
theorem dL_law_551 : decode cL_law 551 = .ok (.ifCond .eq 7, 3) := by decide +kernel
theorem dL_law_554 : decode cL_law 554 = .ok (.iconst 1, 1) := by decide +kernel
theorem dL_law_555 : decode cL_law 555 = .ok (.goto 4, 3) := by decide +kernel
theorem dL_law_558 : decode cL_law 558 = .ok (.iconst 0, 1) := by decide +kernel
theorem dL_law_559 : decode cL_law 559 = .ok (.invokevirtual 105, 3) := by decide +kernel
theorem dL_law_562 : decode cL_law 562 = .ok (.aload_n 2, 1) := by decide +kernel
theorem dL_law_563 : decode cL_law 563 = .ok (.aload_n 0, 1) := by decide +kernel
theorem dL_law_564 : decode cL_law 564 = .ok (.iload 4, 2) := by decide +kernel
theorem dL_law_566 : decode cL_law 566 = .ok (.iconst 1, 1) := by decide +kernel
theorem dL_law_567 : decode cL_law 567 = .ok (.iadd, 1) := by decide +kernel
theorem dL_law_568 : decode cL_law 568 = .ok (.iaload, 1) := by decide +kernel
theorem dL_law_569 : decode cL_law 569 = .ok (.ifCond .eq 7, 3) := by decide +kernel
theorem dL_law_572 : decode cL_law 572 = .ok (.iconst 1, 1) := by decide +kernel
theorem dL_law_573 : decode cL_law 573 = .ok (.goto 4, 3) := by decide +kernel
theorem dL_law_576 : decode cL_law 576 = .ok (.iconst 0, 1) := by decide +kernel
theorem dL_law_577 : decode cL_law 577 = .ok (.invokevirtual 109, 3) := by decide +kernel
theorem dL_law_580 : decode cL_law 580 = .ok (.if_icmp .eq 770, 3) := by decide +kernel
theorem dL_law_583 : decode cL_law 583 = .ok (.iconst 0, 1) := by decide +kernel
theorem dL_law_584 : decode cL_law 584 = .ok (.ireturn, 1) := by decide +kernel
theorem dL_law_585 : decode cL_law 585 = .ok (.aload_n 1, 1) := by decide +kernel
theorem dL_law_586 : decode cL_law 586 = .ok (.aload_n 0, 1) := by decide +kernel
theorem dL_law_587 : decode cL_law 587 = .ok (.iload 4, 2) := by decide +kernel
theorem dL_law_589 : decode cL_law 589 = .ok (.iconst 1, 1) := by decide +kernel
theorem dL_law_590 : decode cL_law 590 = .ok (.iadd, 1) := by decide +kernel
theorem dL_law_591 : decode cL_law 591 = .ok (.iaload, 1) := by decide +kernel
theorem dL_law_592 : decode cL_law 592 = .ok (.aload_n 3, 1) := by decide +kernel
theorem dL_law_593 : decode cL_law 593 = .ok (.invokestatic 110, 3) := by decide +kernel
theorem dL_law_596 : decode cL_law 596 = .ok (.istore 5, 2) := by decide +kernel
theorem dL_law_598 : decode cL_law 598 = .ok (.aload_n 2, 1) := by decide +kernel
theorem dL_law_599 : decode cL_law 599 = .ok (.aload_n 0, 1) := by decide +kernel
theorem dL_law_600 : decode cL_law 600 = .ok (.iload 4, 2) := by decide +kernel
theorem dL_law_602 : decode cL_law 602 = .ok (.iconst 1, 1) := by decide +kernel
theorem dL_law_603 : decode cL_law 603 = .ok (.iadd, 1) := by decide +kernel
theorem dL_law_604 : decode cL_law 604 = .ok (.iaload, 1) := by decide +kernel
theorem dL_law_605 : decode cL_law 605 = .ok (.invokevirtual 112, 3) := by decide +kernel
theorem dL_law_608 : decode cL_law 608 = .ok (.istore 6, 2) := by decide +kernel
theorem dL_law_610 : decode cL_law 610 = .ok (.aload_n 2, 1) := by decide +kernel
theorem dL_law_611 : decode cL_law 611 = .ok (.invokevirtual 83, 3) := by decide +kernel
theorem dL_law_614 : decode cL_law 614 = .ok (.iload 5, 2) := by decide +kernel
theorem dL_law_616 : decode cL_law 616 = .ok (.if_icmp .eq 5, 3) := by decide +kernel
theorem dL_law_619 : decode cL_law 619 = .ok (.iconst 0, 1) := by decide +kernel
theorem dL_law_620 : decode cL_law 620 = .ok (.ireturn, 1) := by decide +kernel
theorem dL_law_621 : decode cL_law 621 = .ok (.iload 5, 2) := by decide +kernel
theorem dL_law_623 : decode cL_law 623 = .ok (.ifCond .ne 15, 3) := by decide +kernel
theorem dL_law_626 : decode cL_law 626 = .ok (.aload_n 3, 1) := by decide +kernel
theorem dL_law_627 : decode cL_law 627 = .ok (.iconst 0, 1) := by decide +kernel
theorem dL_law_628 : decode cL_law 628 = .ok (.laload, 1) := by decide +kernel
theorem dL_law_629 : decode cL_law 629 = .ok (.iload 6, 2) := by decide +kernel
theorem dL_law_631 : decode cL_law 631 = .ok (.i2l, 1) := by decide +kernel
theorem dL_law_632 : decode cL_law 632 = .ok (.lcmp, 1) := by decide +kernel
theorem dL_law_633 : decode cL_law 633 = .ok (.ifCond .eq 5, 3) := by decide +kernel
theorem dL_law_636 : decode cL_law 636 = .ok (.iconst 0, 1) := by decide +kernel
theorem dL_law_637 : decode cL_law 637 = .ok (.ireturn, 1) := by decide +kernel
theorem dL_law_638 : decode cL_law 638 = .ok (.goto 712, 3) := by decide +kernel
theorem dL_law_641 : decode cL_law 641 = .ok (.aload_n 1, 1) := by decide +kernel
theorem dL_law_642 : decode cL_law 642 = .ok (.aload_n 0, 1) := by decide +kernel
theorem dL_law_643 : decode cL_law 643 = .ok (.iload 4, 2) := by decide +kernel
theorem dL_law_645 : decode cL_law 645 = .ok (.iconst 1, 1) := by decide +kernel
theorem dL_law_646 : decode cL_law 646 = .ok (.iadd, 1) := by decide +kernel
theorem dL_law_647 : decode cL_law 647 = .ok (.iaload, 1) := by decide +kernel
theorem dL_law_648 : decode cL_law 648 = .ok (.aload_n 3, 1) := by decide +kernel
theorem dL_law_649 : decode cL_law 649 = .ok (.invokestatic 113, 3) := by decide +kernel
theorem dL_law_652 : decode cL_law 652 = .ok (.istore 5, 2) := by decide +kernel
theorem dL_law_654 : decode cL_law 654 = .ok (.aload_n 2, 1) := by decide +kernel
theorem dL_law_655 : decode cL_law 655 = .ok (.aload_n 0, 1) := by decide +kernel
theorem dL_law_656 : decode cL_law 656 = .ok (.iload 4, 2) := by decide +kernel
theorem dL_law_658 : decode cL_law 658 = .ok (.iconst 1, 1) := by decide +kernel
theorem dL_law_659 : decode cL_law 659 = .ok (.iadd, 1) := by decide +kernel
theorem dL_law_660 : decode cL_law 660 = .ok (.iaload, 1) := by decide +kernel
theorem dL_law_661 : decode cL_law 661 = .ok (.invokevirtual 115, 3) := by decide +kernel
theorem dL_law_664 : decode cL_law 664 = .ok (.istore 6, 2) := by decide +kernel
theorem dL_law_666 : decode cL_law 666 = .ok (.aload_n 2, 1) := by decide +kernel
theorem dL_law_667 : decode cL_law 667 = .ok (.invokevirtual 83, 3) := by decide +kernel
theorem dL_law_670 : decode cL_law 670 = .ok (.iload 5, 2) := by decide +kernel
theorem dL_law_672 : decode cL_law 672 = .ok (.if_icmp .eq 5, 3) := by decide +kernel
theorem dL_law_675 : decode cL_law 675 = .ok (.iconst 0, 1) := by decide +kernel
theorem dL_law_676 : decode cL_law 676 = .ok (.ireturn, 1) := by decide +kernel
theorem dL_law_677 : decode cL_law 677 = .ok (.iload 5, 2) := by decide +kernel
theorem dL_law_679 : decode cL_law 679 = .ok (.ifCond .ne 15, 3) := by decide +kernel
theorem dL_law_682 : decode cL_law 682 = .ok (.aload_n 3, 1) := by decide +kernel
theorem dL_law_683 : decode cL_law 683 = .ok (.iconst 0, 1) := by decide +kernel
theorem dL_law_684 : decode cL_law 684 = .ok (.laload, 1) := by decide +kernel
theorem dL_law_685 : decode cL_law 685 = .ok (.iload 6, 2) := by decide +kernel
theorem dL_law_687 : decode cL_law 687 = .ok (.i2l, 1) := by decide +kernel
theorem dL_law_688 : decode cL_law 688 = .ok (.lcmp, 1) := by decide +kernel
theorem dL_law_689 : decode cL_law 689 = .ok (.ifCond .eq 5, 3) := by decide +kernel
theorem dL_law_692 : decode cL_law 692 = .ok (.iconst 0, 1) := by decide +kernel
theorem dL_law_693 : decode cL_law 693 = .ok (.ireturn, 1) := by decide +kernel
theorem dL_law_694 : decode cL_law 694 = .ok (.goto 656, 3) := by decide +kernel
theorem dL_law_697 : decode cL_law 697 = .ok (.aload_n 1, 1) := by decide +kernel
theorem dL_law_698 : decode cL_law 698 = .ok (.aload_n 0, 1) := by decide +kernel
theorem dL_law_699 : decode cL_law 699 = .ok (.iload 4, 2) := by decide +kernel
theorem dL_law_701 : decode cL_law 701 = .ok (.iconst 1, 1) := by decide +kernel
theorem dL_law_702 : decode cL_law 702 = .ok (.iadd, 1) := by decide +kernel
theorem dL_law_703 : decode cL_law 703 = .ok (.iaload, 1) := by decide +kernel
theorem dL_law_704 : decode cL_law 704 = .ok (.aload_n 3, 1) := by decide +kernel
theorem dL_law_705 : decode cL_law 705 = .ok (.invokestatic 116, 3) := by decide +kernel
theorem dL_law_708 : decode cL_law 708 = .ok (.istore 5, 2) := by decide +kernel
theorem dL_law_710 : decode cL_law 710 = .ok (.aload_n 2, 1) := by decide +kernel
theorem dL_law_711 : decode cL_law 711 = .ok (.aload_n 0, 1) := by decide +kernel
theorem dL_law_712 : decode cL_law 712 = .ok (.iload 4, 2) := by decide +kernel
theorem dL_law_714 : decode cL_law 714 = .ok (.iconst 1, 1) := by decide +kernel
theorem dL_law_715 : decode cL_law 715 = .ok (.iadd, 1) := by decide +kernel
theorem dL_law_716 : decode cL_law 716 = .ok (.iaload, 1) := by decide +kernel
theorem dL_law_717 : decode cL_law 717 = .ok (.invokevirtual 118, 3) := by decide +kernel
theorem dL_law_720 : decode cL_law 720 = .ok (.istore 6, 2) := by decide +kernel
theorem dL_law_722 : decode cL_law 722 = .ok (.aload_n 2, 1) := by decide +kernel
theorem dL_law_723 : decode cL_law 723 = .ok (.invokevirtual 83, 3) := by decide +kernel
theorem dL_law_726 : decode cL_law 726 = .ok (.iload 5, 2) := by decide +kernel
theorem dL_law_728 : decode cL_law 728 = .ok (.if_icmp .eq 5, 3) := by decide +kernel
theorem dL_law_731 : decode cL_law 731 = .ok (.iconst 0, 1) := by decide +kernel
theorem dL_law_732 : decode cL_law 732 = .ok (.ireturn, 1) := by decide +kernel
theorem dL_law_733 : decode cL_law 733 = .ok (.iload 5, 2) := by decide +kernel
theorem dL_law_735 : decode cL_law 735 = .ok (.ifCond .ne 15, 3) := by decide +kernel
theorem dL_law_738 : decode cL_law 738 = .ok (.aload_n 3, 1) := by decide +kernel
theorem dL_law_739 : decode cL_law 739 = .ok (.iconst 0, 1) := by decide +kernel
theorem dL_law_740 : decode cL_law 740 = .ok (.laload, 1) := by decide +kernel
theorem dL_law_741 : decode cL_law 741 = .ok (.iload 6, 2) := by decide +kernel
theorem dL_law_743 : decode cL_law 743 = .ok (.i2l, 1) := by decide +kernel
theorem dL_law_744 : decode cL_law 744 = .ok (.lcmp, 1) := by decide +kernel
theorem dL_law_745 : decode cL_law 745 = .ok (.ifCond .eq 5, 3) := by decide +kernel
theorem dL_law_748 : decode cL_law 748 = .ok (.iconst 0, 1) := by decide +kernel
theorem dL_law_749 : decode cL_law 749 = .ok (.ireturn, 1) := by decide +kernel
theorem dL_law_750 : decode cL_law 750 = .ok (.goto 600, 3) := by decide +kernel
theorem dL_law_753 : decode cL_law 753 = .ok (.aload_n 1, 1) := by decide +kernel
theorem dL_law_754 : decode cL_law 754 = .ok (.aload_n 0, 1) := by decide +kernel
theorem dL_law_755 : decode cL_law 755 = .ok (.iload 4, 2) := by decide +kernel
theorem dL_law_757 : decode cL_law 757 = .ok (.iconst 1, 1) := by decide +kernel
theorem dL_law_758 : decode cL_law 758 = .ok (.iadd, 1) := by decide +kernel
theorem dL_law_759 : decode cL_law 759 = .ok (.iaload, 1) := by decide +kernel
theorem dL_law_760 : decode cL_law 760 = .ok (.aload_n 3, 1) := by decide +kernel
theorem dL_law_761 : decode cL_law 761 = .ok (.invokestatic 119, 3) := by decide +kernel
theorem dL_law_764 : decode cL_law 764 = .ok (.istore 5, 2) := by decide +kernel
theorem dL_law_766 : decode cL_law 766 = .ok (.aload_n 2, 1) := by decide +kernel
theorem dL_law_767 : decode cL_law 767 = .ok (.aload_n 0, 1) := by decide +kernel
theorem dL_law_768 : decode cL_law 768 = .ok (.iload 4, 2) := by decide +kernel
theorem dL_law_770 : decode cL_law 770 = .ok (.iconst 1, 1) := by decide +kernel
theorem dL_law_771 : decode cL_law 771 = .ok (.iadd, 1) := by decide +kernel
theorem dL_law_772 : decode cL_law 772 = .ok (.iaload, 1) := by decide +kernel
theorem dL_law_773 : decode cL_law 773 = .ok (.invokevirtual 121, 3) := by decide +kernel
theorem dL_law_776 : decode cL_law 776 = .ok (.istore 6, 2) := by decide +kernel
theorem dL_law_778 : decode cL_law 778 = .ok (.aload_n 2, 1) := by decide +kernel
theorem dL_law_779 : decode cL_law 779 = .ok (.invokevirtual 83, 3) := by decide +kernel
theorem dL_law_782 : decode cL_law 782 = .ok (.iload 5, 2) := by decide +kernel
theorem dL_law_784 : decode cL_law 784 = .ok (.if_icmp .eq 5, 3) := by decide +kernel
theorem dL_law_787 : decode cL_law 787 = .ok (.iconst 0, 1) := by decide +kernel
theorem dL_law_788 : decode cL_law 788 = .ok (.ireturn, 1) := by decide +kernel
theorem dL_law_789 : decode cL_law 789 = .ok (.iload 5, 2) := by decide +kernel
theorem dL_law_791 : decode cL_law 791 = .ok (.ifCond .ne 15, 3) := by decide +kernel
theorem dL_law_794 : decode cL_law 794 = .ok (.aload_n 3, 1) := by decide +kernel
theorem dL_law_795 : decode cL_law 795 = .ok (.iconst 0, 1) := by decide +kernel
theorem dL_law_796 : decode cL_law 796 = .ok (.laload, 1) := by decide +kernel
theorem dL_law_797 : decode cL_law 797 = .ok (.iload 6, 2) := by decide +kernel
theorem dL_law_799 : decode cL_law 799 = .ok (.i2l, 1) := by decide +kernel
theorem dL_law_800 : decode cL_law 800 = .ok (.lcmp, 1) := by decide +kernel
theorem dL_law_801 : decode cL_law 801 = .ok (.ifCond .eq 5, 3) := by decide +kernel
theorem dL_law_804 : decode cL_law 804 = .ok (.iconst 0, 1) := by decide +kernel
theorem dL_law_805 : decode cL_law 805 = .ok (.ireturn, 1) := by decide +kernel
theorem dL_law_806 : decode cL_law 806 = .ok (.goto 544, 3) := by decide +kernel
theorem dL_law_809 : decode cL_law 809 = .ok (.aload_n 1, 1) := by decide +kernel
theorem dL_law_810 : decode cL_law 810 = .ok (.aload_n 0, 1) := by decide +kernel
theorem dL_law_811 : decode cL_law 811 = .ok (.iload 4, 2) := by decide +kernel
theorem dL_law_813 : decode cL_law 813 = .ok (.iconst 1, 1) := by decide +kernel
theorem dL_law_814 : decode cL_law 814 = .ok (.iadd, 1) := by decide +kernel
theorem dL_law_815 : decode cL_law 815 = .ok (.iaload, 1) := by decide +kernel
theorem dL_law_816 : decode cL_law 816 = .ok (.aload_n 3, 1) := by decide +kernel
theorem dL_law_817 : decode cL_law 817 = .ok (.invokestatic 122, 3) := by decide +kernel
theorem dL_law_820 : decode cL_law 820 = .ok (.istore 5, 2) := by decide +kernel
theorem dL_law_822 : decode cL_law 822 = .ok (.aload_n 2, 1) := by decide +kernel
theorem dL_law_823 : decode cL_law 823 = .ok (.aload_n 0, 1) := by decide +kernel
theorem dL_law_824 : decode cL_law 824 = .ok (.iload 4, 2) := by decide +kernel
theorem dL_law_826 : decode cL_law 826 = .ok (.iconst 1, 1) := by decide +kernel
theorem dL_law_827 : decode cL_law 827 = .ok (.iadd, 1) := by decide +kernel
theorem dL_law_828 : decode cL_law 828 = .ok (.iaload, 1) := by decide +kernel
theorem dL_law_829 : decode cL_law 829 = .ok (.invokevirtual 124, 3) := by decide +kernel
theorem dL_law_832 : decode cL_law 832 = .ok (.istore 6, 2) := by decide +kernel
theorem dL_law_834 : decode cL_law 834 = .ok (.aload_n 2, 1) := by decide +kernel
theorem dL_law_835 : decode cL_law 835 = .ok (.invokevirtual 83, 3) := by decide +kernel
theorem dL_law_838 : decode cL_law 838 = .ok (.iload 5, 2) := by decide +kernel
theorem dL_law_840 : decode cL_law 840 = .ok (.if_icmp .eq 5, 3) := by decide +kernel
theorem dL_law_843 : decode cL_law 843 = .ok (.iconst 0, 1) := by decide +kernel
theorem dL_law_844 : decode cL_law 844 = .ok (.ireturn, 1) := by decide +kernel
theorem dL_law_845 : decode cL_law 845 = .ok (.iload 5, 2) := by decide +kernel
theorem dL_law_847 : decode cL_law 847 = .ok (.ifCond .ne 15, 3) := by decide +kernel
theorem dL_law_850 : decode cL_law 850 = .ok (.aload_n 3, 1) := by decide +kernel
theorem dL_law_851 : decode cL_law 851 = .ok (.iconst 0, 1) := by decide +kernel
theorem dL_law_852 : decode cL_law 852 = .ok (.laload, 1) := by decide +kernel
theorem dL_law_853 : decode cL_law 853 = .ok (.iload 6, 2) := by decide +kernel
theorem dL_law_855 : decode cL_law 855 = .ok (.i2l, 1) := by decide +kernel
theorem dL_law_856 : decode cL_law 856 = .ok (.lcmp, 1) := by decide +kernel
theorem dL_law_857 : decode cL_law 857 = .ok (.ifCond .eq 5, 3) := by decide +kernel
theorem dL_law_860 : decode cL_law 860 = .ok (.iconst 0, 1) := by decide +kernel
theorem dL_law_861 : decode cL_law 861 = .ok (.ireturn, 1) := by decide +kernel
theorem dL_law_862 : decode cL_law 862 = .ok (.goto 488, 3) := by decide +kernel
theorem dL_law_865 : decode cL_law 865 = .ok (.aload_n 1, 1) := by decide +kernel
theorem dL_law_866 : decode cL_law 866 = .ok (.aload_n 0, 1) := by decide +kernel
theorem dL_law_867 : decode cL_law 867 = .ok (.iload 4, 2) := by decide +kernel
theorem dL_law_869 : decode cL_law 869 = .ok (.iconst 1, 1) := by decide +kernel
theorem dL_law_870 : decode cL_law 870 = .ok (.iadd, 1) := by decide +kernel
theorem dL_law_871 : decode cL_law 871 = .ok (.iaload, 1) := by decide +kernel
theorem dL_law_872 : decode cL_law 872 = .ok (.aload_n 3, 1) := by decide +kernel
theorem dL_law_873 : decode cL_law 873 = .ok (.invokestatic 125, 3) := by decide +kernel
theorem dL_law_876 : decode cL_law 876 = .ok (.istore 5, 2) := by decide +kernel
theorem dL_law_878 : decode cL_law 878 = .ok (.aload_n 2, 1) := by decide +kernel
theorem dL_law_879 : decode cL_law 879 = .ok (.aload_n 0, 1) := by decide +kernel
theorem dL_law_880 : decode cL_law 880 = .ok (.iload 4, 2) := by decide +kernel
theorem dL_law_882 : decode cL_law 882 = .ok (.iconst 1, 1) := by decide +kernel
theorem dL_law_883 : decode cL_law 883 = .ok (.iadd, 1) := by decide +kernel
theorem dL_law_884 : decode cL_law 884 = .ok (.iaload, 1) := by decide +kernel
theorem dL_law_885 : decode cL_law 885 = .ok (.invokevirtual 127, 3) := by decide +kernel
theorem dL_law_888 : decode cL_law 888 = .ok (.istore 6, 2) := by decide +kernel
theorem dL_law_890 : decode cL_law 890 = .ok (.aload_n 2, 1) := by decide +kernel
theorem dL_law_891 : decode cL_law 891 = .ok (.invokevirtual 83, 3) := by decide +kernel
theorem dL_law_894 : decode cL_law 894 = .ok (.iload 5, 2) := by decide +kernel
theorem dL_law_896 : decode cL_law 896 = .ok (.if_icmp .eq 5, 3) := by decide +kernel
theorem dL_law_899 : decode cL_law 899 = .ok (.iconst 0, 1) := by decide +kernel
theorem dL_law_900 : decode cL_law 900 = .ok (.ireturn, 1) := by decide +kernel
theorem dL_law_901 : decode cL_law 901 = .ok (.iload 5, 2) := by decide +kernel
theorem dL_law_903 : decode cL_law 903 = .ok (.ifCond .ne 15, 3) := by decide +kernel
theorem dL_law_906 : decode cL_law 906 = .ok (.aload_n 3, 1) := by decide +kernel
theorem dL_law_907 : decode cL_law 907 = .ok (.iconst 0, 1) := by decide +kernel
theorem dL_law_908 : decode cL_law 908 = .ok (.laload, 1) := by decide +kernel
theorem dL_law_909 : decode cL_law 909 = .ok (.iload 6, 2) := by decide +kernel
theorem dL_law_911 : decode cL_law 911 = .ok (.i2l, 1) := by decide +kernel
theorem dL_law_912 : decode cL_law 912 = .ok (.lcmp, 1) := by decide +kernel
theorem dL_law_913 : decode cL_law 913 = .ok (.ifCond .eq 5, 3) := by decide +kernel
theorem dL_law_916 : decode cL_law 916 = .ok (.iconst 0, 1) := by decide +kernel
theorem dL_law_917 : decode cL_law 917 = .ok (.ireturn, 1) := by decide +kernel
theorem dL_law_918 : decode cL_law 918 = .ok (.goto 432, 3) := by decide +kernel
theorem dL_law_921 : decode cL_law 921 = .ok (.aload_n 1, 1) := by decide +kernel
theorem dL_law_922 : decode cL_law 922 = .ok (.aload_n 0, 1) := by decide +kernel
theorem dL_law_923 : decode cL_law 923 = .ok (.iload 4, 2) := by decide +kernel
theorem dL_law_925 : decode cL_law 925 = .ok (.iconst 1, 1) := by decide +kernel
theorem dL_law_926 : decode cL_law 926 = .ok (.iadd, 1) := by decide +kernel
theorem dL_law_927 : decode cL_law 927 = .ok (.iaload, 1) := by decide +kernel
theorem dL_law_928 : decode cL_law 928 = .ok (.aload_n 3, 1) := by decide +kernel
theorem dL_law_929 : decode cL_law 929 = .ok (.invokestatic 128, 3) := by decide +kernel
theorem dL_law_932 : decode cL_law 932 = .ok (.istore 5, 2) := by decide +kernel
theorem dL_law_934 : decode cL_law 934 = .ok (.aload_n 2, 1) := by decide +kernel
theorem dL_law_935 : decode cL_law 935 = .ok (.aload_n 0, 1) := by decide +kernel
theorem dL_law_936 : decode cL_law 936 = .ok (.iload 4, 2) := by decide +kernel
theorem dL_law_938 : decode cL_law 938 = .ok (.iconst 1, 1) := by decide +kernel
theorem dL_law_939 : decode cL_law 939 = .ok (.iadd, 1) := by decide +kernel
theorem dL_law_940 : decode cL_law 940 = .ok (.iaload, 1) := by decide +kernel
theorem dL_law_941 : decode cL_law 941 = .ok (.invokevirtual 130, 3) := by decide +kernel
theorem dL_law_944 : decode cL_law 944 = .ok (.istore 6, 2) := by decide +kernel
theorem dL_law_946 : decode cL_law 946 = .ok (.aload_n 2, 1) := by decide +kernel
theorem dL_law_947 : decode cL_law 947 = .ok (.invokevirtual 83, 3) := by decide +kernel
theorem dL_law_950 : decode cL_law 950 = .ok (.iload 5, 2) := by decide +kernel
theorem dL_law_952 : decode cL_law 952 = .ok (.if_icmp .eq 5, 3) := by decide +kernel
theorem dL_law_955 : decode cL_law 955 = .ok (.iconst 0, 1) := by decide +kernel
theorem dL_law_956 : decode cL_law 956 = .ok (.ireturn, 1) := by decide +kernel
theorem dL_law_957 : decode cL_law 957 = .ok (.iload 5, 2) := by decide +kernel
theorem dL_law_959 : decode cL_law 959 = .ok (.ifCond .ne 15, 3) := by decide +kernel
theorem dL_law_962 : decode cL_law 962 = .ok (.aload_n 3, 1) := by decide +kernel
theorem dL_law_963 : decode cL_law 963 = .ok (.iconst 0, 1) := by decide +kernel
theorem dL_law_964 : decode cL_law 964 = .ok (.laload, 1) := by decide +kernel
theorem dL_law_965 : decode cL_law 965 = .ok (.iload 6, 2) := by decide +kernel
theorem dL_law_967 : decode cL_law 967 = .ok (.i2l, 1) := by decide +kernel
theorem dL_law_968 : decode cL_law 968 = .ok (.lcmp, 1) := by decide +kernel
theorem dL_law_969 : decode cL_law 969 = .ok (.ifCond .eq 5, 3) := by decide +kernel
theorem dL_law_972 : decode cL_law 972 = .ok (.iconst 0, 1) := by decide +kernel
theorem dL_law_973 : decode cL_law 973 = .ok (.ireturn, 1) := by decide +kernel
theorem dL_law_974 : decode cL_law 974 = .ok (.goto 376, 3) := by decide +kernel
theorem dL_law_977 : decode cL_law 977 = .ok (.aload_n 1, 1) := by decide +kernel
theorem dL_law_978 : decode cL_law 978 = .ok (.aload_n 0, 1) := by decide +kernel
theorem dL_law_979 : decode cL_law 979 = .ok (.iload 4, 2) := by decide +kernel
theorem dL_law_981 : decode cL_law 981 = .ok (.iconst 1, 1) := by decide +kernel
theorem dL_law_982 : decode cL_law 982 = .ok (.iadd, 1) := by decide +kernel
theorem dL_law_983 : decode cL_law 983 = .ok (.iaload, 1) := by decide +kernel
theorem dL_law_984 : decode cL_law 984 = .ok (.aload_n 0, 1) := by decide +kernel
theorem dL_law_985 : decode cL_law 985 = .ok (.iload 4, 2) := by decide +kernel
theorem dL_law_987 : decode cL_law 987 = .ok (.iconst 2, 1) := by decide +kernel
theorem dL_law_988 : decode cL_law 988 = .ok (.iadd, 1) := by decide +kernel
theorem dL_law_989 : decode cL_law 989 = .ok (.iaload, 1) := by decide +kernel
theorem dL_law_990 : decode cL_law 990 = .ok (.aload_n 3, 1) := by decide +kernel
theorem dL_law_991 : decode cL_law 991 = .ok (.invokestatic 131, 3) := by decide +kernel
theorem dL_law_994 : decode cL_law 994 = .ok (.istore 5, 2) := by decide +kernel
theorem dL_law_996 : decode cL_law 996 = .ok (.aload_n 2, 1) := by decide +kernel
theorem dL_law_997 : decode cL_law 997 = .ok (.aload_n 0, 1) := by decide +kernel
theorem dL_law_998 : decode cL_law 998 = .ok (.iload 4, 2) := by decide +kernel
theorem dL_law_1000 : decode cL_law 1000 = .ok (.iconst 1, 1) := by decide +kernel
theorem dL_law_1001 : decode cL_law 1001 = .ok (.iadd, 1) := by decide +kernel
theorem dL_law_1002 : decode cL_law 1002 = .ok (.iaload, 1) := by decide +kernel
theorem dL_law_1003 : decode cL_law 1003 = .ok (.aload_n 0, 1) := by decide +kernel
theorem dL_law_1004 : decode cL_law 1004 = .ok (.iload 4, 2) := by decide +kernel
theorem dL_law_1006 : decode cL_law 1006 = .ok (.iconst 2, 1) := by decide +kernel
theorem dL_law_1007 : decode cL_law 1007 = .ok (.iadd, 1) := by decide +kernel
theorem dL_law_1008 : decode cL_law 1008 = .ok (.iaload, 1) := by decide +kernel
theorem dL_law_1009 : decode cL_law 1009 = .ok (.invokevirtual 133, 3) := by decide +kernel
theorem dL_law_1012 : decode cL_law 1012 = .ok (.istore 6, 2) := by decide +kernel
theorem dL_law_1014 : decode cL_law 1014 = .ok (.aload_n 2, 1) := by decide +kernel
theorem dL_law_1015 : decode cL_law 1015 = .ok (.invokevirtual 83, 3) := by decide +kernel
theorem dL_law_1018 : decode cL_law 1018 = .ok (.iload 5, 2) := by decide +kernel
theorem dL_law_1020 : decode cL_law 1020 = .ok (.if_icmp .eq 5, 3) := by decide +kernel
theorem dL_law_1023 : decode cL_law 1023 = .ok (.iconst 0, 1) := by decide +kernel
theorem dL_law_1024 : decode cL_law 1024 = .ok (.ireturn, 1) := by decide +kernel
theorem dL_law_1025 : decode cL_law 1025 = .ok (.iload 5, 2) := by decide +kernel
theorem dL_law_1027 : decode cL_law 1027 = .ok (.ifCond .ne 15, 3) := by decide +kernel
theorem dL_law_1030 : decode cL_law 1030 = .ok (.aload_n 3, 1) := by decide +kernel
theorem dL_law_1031 : decode cL_law 1031 = .ok (.iconst 0, 1) := by decide +kernel
theorem dL_law_1032 : decode cL_law 1032 = .ok (.laload, 1) := by decide +kernel
theorem dL_law_1033 : decode cL_law 1033 = .ok (.iload 6, 2) := by decide +kernel
theorem dL_law_1035 : decode cL_law 1035 = .ok (.i2l, 1) := by decide +kernel
theorem dL_law_1036 : decode cL_law 1036 = .ok (.lcmp, 1) := by decide +kernel
theorem dL_law_1037 : decode cL_law 1037 = .ok (.ifCond .eq 5, 3) := by decide +kernel
theorem dL_law_1040 : decode cL_law 1040 = .ok (.iconst 0, 1) := by decide +kernel
theorem dL_law_1041 : decode cL_law 1041 = .ok (.ireturn, 1) := by decide +kernel
theorem dL_law_1042 : decode cL_law 1042 = .ok (.goto 308, 3) := by decide +kernel
theorem dL_law_1045 : decode cL_law 1045 = .ok (.aload_n 1, 1) := by decide +kernel
theorem dL_law_1046 : decode cL_law 1046 = .ok (.aload_n 0, 1) := by decide +kernel
theorem dL_law_1047 : decode cL_law 1047 = .ok (.iload 4, 2) := by decide +kernel
theorem dL_law_1049 : decode cL_law 1049 = .ok (.iconst 1, 1) := by decide +kernel
theorem dL_law_1050 : decode cL_law 1050 = .ok (.iadd, 1) := by decide +kernel
theorem dL_law_1051 : decode cL_law 1051 = .ok (.iaload, 1) := by decide +kernel
theorem dL_law_1052 : decode cL_law 1052 = .ok (.aload_n 3, 1) := by decide +kernel
theorem dL_law_1053 : decode cL_law 1053 = .ok (.invokestatic 134, 3) := by decide +kernel
theorem dL_law_1056 : decode cL_law 1056 = .ok (.istore 5, 2) := by decide +kernel
theorem dL_law_1058 : decode cL_law 1058 = .ok (.aload_n 2, 1) := by decide +kernel
theorem dL_law_1059 : decode cL_law 1059 = .ok (.aload_n 0, 1) := by decide +kernel
theorem dL_law_1060 : decode cL_law 1060 = .ok (.iload 4, 2) := by decide +kernel
theorem dL_law_1062 : decode cL_law 1062 = .ok (.iconst 1, 1) := by decide +kernel
theorem dL_law_1063 : decode cL_law 1063 = .ok (.iadd, 1) := by decide +kernel
theorem dL_law_1064 : decode cL_law 1064 = .ok (.iaload, 1) := by decide +kernel
theorem dL_law_1065 : decode cL_law 1065 = .ok (.invokevirtual 136, 3) := by decide +kernel
theorem dL_law_1068 : decode cL_law 1068 = .ok (.istore 6, 2) := by decide +kernel
theorem dL_law_1070 : decode cL_law 1070 = .ok (.aload_n 2, 1) := by decide +kernel
theorem dL_law_1071 : decode cL_law 1071 = .ok (.invokevirtual 83, 3) := by decide +kernel
theorem dL_law_1074 : decode cL_law 1074 = .ok (.iload 5, 2) := by decide +kernel
theorem dL_law_1076 : decode cL_law 1076 = .ok (.if_icmp .eq 5, 3) := by decide +kernel
theorem dL_law_1079 : decode cL_law 1079 = .ok (.iconst 0, 1) := by decide +kernel
theorem dL_law_1080 : decode cL_law 1080 = .ok (.ireturn, 1) := by decide +kernel
theorem dL_law_1081 : decode cL_law 1081 = .ok (.iload 5, 2) := by decide +kernel
theorem dL_law_1083 : decode cL_law 1083 = .ok (.ifCond .ne 15, 3) := by decide +kernel
theorem dL_law_1086 : decode cL_law 1086 = .ok (.aload_n 3, 1) := by decide +kernel
theorem dL_law_1087 : decode cL_law 1087 = .ok (.iconst 0, 1) := by decide +kernel
theorem dL_law_1088 : decode cL_law 1088 = .ok (.laload, 1) := by decide +kernel
theorem dL_law_1089 : decode cL_law 1089 = .ok (.iload 6, 2) := by decide +kernel
theorem dL_law_1091 : decode cL_law 1091 = .ok (.i2l, 1) := by decide +kernel
theorem dL_law_1092 : decode cL_law 1092 = .ok (.lcmp, 1) := by decide +kernel
theorem dL_law_1093 : decode cL_law 1093 = .ok (.ifCond .eq 5, 3) := by decide +kernel
theorem dL_law_1096 : decode cL_law 1096 = .ok (.iconst 0, 1) := by decide +kernel
theorem dL_law_1097 : decode cL_law 1097 = .ok (.ireturn, 1) := by decide +kernel
theorem dL_law_1098 : decode cL_law 1098 = .ok (.goto 252, 3) := by decide +kernel
theorem dL_law_1101 : decode cL_law 1101 = .ok (.aload_n 1, 1) := by decide +kernel
theorem dL_law_1102 : decode cL_law 1102 = .ok (.aload_n 0, 1) := by decide +kernel
theorem dL_law_1103 : decode cL_law 1103 = .ok (.iload 4, 2) := by decide +kernel
theorem dL_law_1105 : decode cL_law 1105 = .ok (.iconst 1, 1) := by decide +kernel
theorem dL_law_1106 : decode cL_law 1106 = .ok (.iadd, 1) := by decide +kernel
theorem dL_law_1107 : decode cL_law 1107 = .ok (.iaload, 1) := by decide +kernel
theorem dL_law_1108 : decode cL_law 1108 = .ok (.aload_n 3, 1) := by decide +kernel
theorem dL_law_1109 : decode cL_law 1109 = .ok (.invokestatic 137, 3) := by decide +kernel
theorem dL_law_1112 : decode cL_law 1112 = .ok (.istore 5, 2) := by decide +kernel
theorem dL_law_1114 : decode cL_law 1114 = .ok (.aload_n 2, 1) := by decide +kernel
theorem dL_law_1115 : decode cL_law 1115 = .ok (.aload_n 0, 1) := by decide +kernel
theorem dL_law_1116 : decode cL_law 1116 = .ok (.iload 4, 2) := by decide +kernel
theorem dL_law_1118 : decode cL_law 1118 = .ok (.iconst 1, 1) := by decide +kernel
theorem dL_law_1119 : decode cL_law 1119 = .ok (.iadd, 1) := by decide +kernel
theorem dL_law_1120 : decode cL_law 1120 = .ok (.iaload, 1) := by decide +kernel
theorem dL_law_1121 : decode cL_law 1121 = .ok (.invokevirtual 139, 3) := by decide +kernel
theorem dL_law_1124 : decode cL_law 1124 = .ok (.istore 6, 2) := by decide +kernel
theorem dL_law_1126 : decode cL_law 1126 = .ok (.aload_n 2, 1) := by decide +kernel
theorem dL_law_1127 : decode cL_law 1127 = .ok (.invokevirtual 83, 3) := by decide +kernel
theorem dL_law_1130 : decode cL_law 1130 = .ok (.iload 5, 2) := by decide +kernel
theorem dL_law_1132 : decode cL_law 1132 = .ok (.if_icmp .eq 5, 3) := by decide +kernel
theorem dL_law_1135 : decode cL_law 1135 = .ok (.iconst 0, 1) := by decide +kernel
theorem dL_law_1136 : decode cL_law 1136 = .ok (.ireturn, 1) := by decide +kernel
theorem dL_law_1137 : decode cL_law 1137 = .ok (.iload 5, 2) := by decide +kernel
theorem dL_law_1139 : decode cL_law 1139 = .ok (.ifCond .ne 15, 3) := by decide +kernel
theorem dL_law_1142 : decode cL_law 1142 = .ok (.aload_n 3, 1) := by decide +kernel
theorem dL_law_1143 : decode cL_law 1143 = .ok (.iconst 0, 1) := by decide +kernel
theorem dL_law_1144 : decode cL_law 1144 = .ok (.laload, 1) := by decide +kernel
theorem dL_law_1145 : decode cL_law 1145 = .ok (.iload 6, 2) := by decide +kernel
theorem dL_law_1147 : decode cL_law 1147 = .ok (.i2l, 1) := by decide +kernel
theorem dL_law_1148 : decode cL_law 1148 = .ok (.lcmp, 1) := by decide +kernel
theorem dL_law_1149 : decode cL_law 1149 = .ok (.ifCond .eq 5, 3) := by decide +kernel
theorem dL_law_1152 : decode cL_law 1152 = .ok (.iconst 0, 1) := by decide +kernel
theorem dL_law_1153 : decode cL_law 1153 = .ok (.ireturn, 1) := by decide +kernel
theorem dL_law_1154 : decode cL_law 1154 = .ok (.goto 196, 3) := by decide +kernel
theorem dL_law_1157 : decode cL_law 1157 = .ok (.aload_n 1, 1) := by decide +kernel
theorem dL_law_1158 : decode cL_law 1158 = .ok (.aload_n 0, 1) := by decide +kernel
theorem dL_law_1159 : decode cL_law 1159 = .ok (.iload 4, 2) := by decide +kernel
theorem dL_law_1161 : decode cL_law 1161 = .ok (.iconst 1, 1) := by decide +kernel
theorem dL_law_1162 : decode cL_law 1162 = .ok (.iadd, 1) := by decide +kernel
theorem dL_law_1163 : decode cL_law 1163 = .ok (.iaload, 1) := by decide +kernel
theorem dL_law_1164 : decode cL_law 1164 = .ok (.aload_n 3, 1) := by decide +kernel
theorem dL_law_1165 : decode cL_law 1165 = .ok (.invokestatic 140, 3) := by decide +kernel
theorem dL_law_1168 : decode cL_law 1168 = .ok (.istore 5, 2) := by decide +kernel
theorem dL_law_1170 : decode cL_law 1170 = .ok (.aload_n 2, 1) := by decide +kernel
theorem dL_law_1171 : decode cL_law 1171 = .ok (.aload_n 0, 1) := by decide +kernel
theorem dL_law_1172 : decode cL_law 1172 = .ok (.iload 4, 2) := by decide +kernel
theorem dL_law_1174 : decode cL_law 1174 = .ok (.iconst 1, 1) := by decide +kernel
theorem dL_law_1175 : decode cL_law 1175 = .ok (.iadd, 1) := by decide +kernel
theorem dL_law_1176 : decode cL_law 1176 = .ok (.iaload, 1) := by decide +kernel
theorem dL_law_1177 : decode cL_law 1177 = .ok (.invokevirtual 142, 3) := by decide +kernel
theorem dL_law_1180 : decode cL_law 1180 = .ok (.istore 6, 2) := by decide +kernel
theorem dL_law_1182 : decode cL_law 1182 = .ok (.aload_n 2, 1) := by decide +kernel
theorem dL_law_1183 : decode cL_law 1183 = .ok (.invokevirtual 83, 3) := by decide +kernel
theorem dL_law_1186 : decode cL_law 1186 = .ok (.iload 5, 2) := by decide +kernel
theorem dL_law_1188 : decode cL_law 1188 = .ok (.if_icmp .eq 5, 3) := by decide +kernel
theorem dL_law_1191 : decode cL_law 1191 = .ok (.iconst 0, 1) := by decide +kernel
theorem dL_law_1192 : decode cL_law 1192 = .ok (.ireturn, 1) := by decide +kernel
theorem dL_law_1193 : decode cL_law 1193 = .ok (.iload 5, 2) := by decide +kernel
theorem dL_law_1195 : decode cL_law 1195 = .ok (.ifCond .ne 15, 3) := by decide +kernel
theorem dL_law_1198 : decode cL_law 1198 = .ok (.aload_n 3, 1) := by decide +kernel
theorem dL_law_1199 : decode cL_law 1199 = .ok (.iconst 0, 1) := by decide +kernel
theorem dL_law_1200 : decode cL_law 1200 = .ok (.laload, 1) := by decide +kernel
theorem dL_law_1201 : decode cL_law 1201 = .ok (.iload 6, 2) := by decide +kernel
theorem dL_law_1203 : decode cL_law 1203 = .ok (.i2l, 1) := by decide +kernel
theorem dL_law_1204 : decode cL_law 1204 = .ok (.lcmp, 1) := by decide +kernel
theorem dL_law_1205 : decode cL_law 1205 = .ok (.ifCond .eq 5, 3) := by decide +kernel
theorem dL_law_1208 : decode cL_law 1208 = .ok (.iconst 0, 1) := by decide +kernel
theorem dL_law_1209 : decode cL_law 1209 = .ok (.ireturn, 1) := by decide +kernel
theorem dL_law_1210 : decode cL_law 1210 = .ok (.goto 140, 3) := by decide +kernel
theorem dL_law_1213 : decode cL_law 1213 = .ok (.aload_n 1, 1) := by decide +kernel
theorem dL_law_1214 : decode cL_law 1214 = .ok (.invokevirtual 143, 3) := by decide +kernel
theorem dL_law_1217 : decode cL_law 1217 = .ok (.aload_n 2, 1) := by decide +kernel
theorem dL_law_1218 : decode cL_law 1218 = .ok (.invokevirtual 146, 3) := by decide +kernel
theorem dL_law_1221 : decode cL_law 1221 = .ok (.if_icmp .eq 129, 3) := by decide +kernel
theorem dL_law_1224 : decode cL_law 1224 = .ok (.iconst 0, 1) := by decide +kernel
theorem dL_law_1225 : decode cL_law 1225 = .ok (.ireturn, 1) := by decide +kernel
theorem dL_law_1226 : decode cL_law 1226 = .ok (.aload_n 1, 1) := by decide +kernel
theorem dL_law_1227 : decode cL_law 1227 = .ok (.invokevirtual 147, 3) := by decide +kernel
theorem dL_law_1230 : decode cL_law 1230 = .ok (.aload_n 2, 1) := by decide +kernel
theorem dL_law_1231 : decode cL_law 1231 = .ok (.invokevirtual 150, 3) := by decide +kernel
theorem dL_law_1234 : decode cL_law 1234 = .ok (.if_icmp .eq 116, 3) := by decide +kernel
theorem dL_law_1237 : decode cL_law 1237 = .ok (.iconst 0, 1) := by decide +kernel
theorem dL_law_1238 : decode cL_law 1238 = .ok (.ireturn, 1) := by decide +kernel
theorem dL_law_1239 : decode cL_law 1239 = .ok (.aload_n 1, 1) := by decide +kernel
theorem dL_law_1240 : decode cL_law 1240 = .ok (.aload_n 0, 1) := by decide +kernel
theorem dL_law_1241 : decode cL_law 1241 = .ok (.iload 4, 2) := by decide +kernel
theorem dL_law_1243 : decode cL_law 1243 = .ok (.iconst 1, 1) := by decide +kernel
theorem dL_law_1244 : decode cL_law 1244 = .ok (.iadd, 1) := by decide +kernel
theorem dL_law_1245 : decode cL_law 1245 = .ok (.iaload, 1) := by decide +kernel
theorem dL_law_1246 : decode cL_law 1246 = .ok (.aload_n 3, 1) := by decide +kernel
theorem dL_law_1247 : decode cL_law 1247 = .ok (.invokestatic 151, 3) := by decide +kernel
theorem dL_law_1250 : decode cL_law 1250 = .ok (.istore 5, 2) := by decide +kernel
theorem dL_law_1252 : decode cL_law 1252 = .ok (.aload_n 2, 1) := by decide +kernel
theorem dL_law_1253 : decode cL_law 1253 = .ok (.aload_n 0, 1) := by decide +kernel
theorem dL_law_1254 : decode cL_law 1254 = .ok (.iload 4, 2) := by decide +kernel
theorem dL_law_1256 : decode cL_law 1256 = .ok (.iconst 1, 1) := by decide +kernel
theorem dL_law_1257 : decode cL_law 1257 = .ok (.iadd, 1) := by decide +kernel
theorem dL_law_1258 : decode cL_law 1258 = .ok (.iaload, 1) := by decide +kernel
theorem dL_law_1259 : decode cL_law 1259 = .ok (.invokevirtual 153, 3) := by decide +kernel
theorem dL_law_1262 : decode cL_law 1262 = .ok (.istore 6, 2) := by decide +kernel
theorem dL_law_1264 : decode cL_law 1264 = .ok (.aload_n 2, 1) := by decide +kernel
theorem dL_law_1265 : decode cL_law 1265 = .ok (.invokevirtual 83, 3) := by decide +kernel
theorem dL_law_1268 : decode cL_law 1268 = .ok (.iload 5, 2) := by decide +kernel
theorem dL_law_1270 : decode cL_law 1270 = .ok (.if_icmp .eq 5, 3) := by decide +kernel
theorem dL_law_1273 : decode cL_law 1273 = .ok (.iconst 0, 1) := by decide +kernel
theorem dL_law_1274 : decode cL_law 1274 = .ok (.ireturn, 1) := by decide +kernel
theorem dL_law_1275 : decode cL_law 1275 = .ok (.iload 5, 2) := by decide +kernel
theorem dL_law_1277 : decode cL_law 1277 = .ok (.ifCond .ne 15, 3) := by decide +kernel
theorem dL_law_1280 : decode cL_law 1280 = .ok (.aload_n 3, 1) := by decide +kernel
theorem dL_law_1281 : decode cL_law 1281 = .ok (.iconst 0, 1) := by decide +kernel
theorem dL_law_1282 : decode cL_law 1282 = .ok (.laload, 1) := by decide +kernel
theorem dL_law_1283 : decode cL_law 1283 = .ok (.iload 6, 2) := by decide +kernel
theorem dL_law_1285 : decode cL_law 1285 = .ok (.i2l, 1) := by decide +kernel
theorem dL_law_1286 : decode cL_law 1286 = .ok (.lcmp, 1) := by decide +kernel
theorem dL_law_1287 : decode cL_law 1287 = .ok (.ifCond .eq 5, 3) := by decide +kernel
theorem dL_law_1290 : decode cL_law 1290 = .ok (.iconst 0, 1) := by decide +kernel
theorem dL_law_1291 : decode cL_law 1291 = .ok (.ireturn, 1) := by decide +kernel
theorem dL_law_1292 : decode cL_law 1292 = .ok (.goto 58, 3) := by decide +kernel
theorem dL_law_1295 : decode cL_law 1295 = .ok (.aload_n 1, 1) := by decide +kernel
theorem dL_law_1296 : decode cL_law 1296 = .ok (.invokevirtual 154, 3) := by decide +kernel
theorem dL_law_1299 : decode cL_law 1299 = .ok (.dstore 5, 2) := by decide +kernel
theorem dL_law_1301 : decode cL_law 1301 = .ok (.aload_n 2, 1) := by decide +kernel
theorem dL_law_1302 : decode cL_law 1302 = .ok (.invokevirtual 158, 3) := by decide +kernel
theorem dL_law_1305 : decode cL_law 1305 = .ok (.dstore 7, 2) := by decide +kernel
theorem dL_law_1307 : decode cL_law 1307 = .ok (.dload 5, 2) := by decide +kernel
theorem dL_law_1309 : decode cL_law 1309 = .ok (.dload 7, 2) := by decide +kernel
theorem dL_law_1311 : decode cL_law 1311 = .ok (.dcmp .l, 1) := by decide +kernel
theorem dL_law_1312 : decode cL_law 1312 = .ok (.ifCond .eq 21, 3) := by decide +kernel
theorem dL_law_1315 : decode cL_law 1315 = .ok (.dload 5, 2) := by decide +kernel
theorem dL_law_1317 : decode cL_law 1317 = .ok (.dload 5, 2) := by decide +kernel
theorem dL_law_1319 : decode cL_law 1319 = .ok (.dcmp .l, 1) := by decide +kernel
theorem dL_law_1320 : decode cL_law 1320 = .ok (.ifCond .eq 11, 3) := by decide +kernel
theorem dL_law_1323 : decode cL_law 1323 = .ok (.dload 7, 2) := by decide +kernel
theorem dL_law_1325 : decode cL_law 1325 = .ok (.dload 7, 2) := by decide +kernel
theorem dL_law_1327 : decode cL_law 1327 = .ok (.dcmp .l, 1) := by decide +kernel
theorem dL_law_1328 : decode cL_law 1328 = .ok (.ifCond .ne 5, 3) := by decide +kernel
theorem dL_law_1331 : decode cL_law 1331 = .ok (.iconst 0, 1) := by decide +kernel
theorem dL_law_1332 : decode cL_law 1332 = .ok (.ireturn, 1) := by decide +kernel
theorem dL_law_1333 : decode cL_law 1333 = .ok (.goto 17, 3) := by decide +kernel
theorem dL_law_1336 : decode cL_law 1336 = .ok (.aload_n 1, 1) := by decide +kernel
theorem dL_law_1337 : decode cL_law 1337 = .ok (.invokevirtual 159, 3) := by decide +kernel
theorem dL_law_1340 : decode cL_law 1340 = .ok (.aload_n 2, 1) := by decide +kernel
theorem dL_law_1341 : decode cL_law 1341 = .ok (.invokevirtual 163, 3) := by decide +kernel
theorem dL_law_1344 : decode cL_law 1344 = .ok (.lcmp, 1) := by decide +kernel
theorem dL_law_1345 : decode cL_law 1345 = .ok (.ifCond .eq 5, 3) := by decide +kernel
theorem dL_law_1348 : decode cL_law 1348 = .ok (.iconst 0, 1) := by decide +kernel
theorem dL_law_1349 : decode cL_law 1349 = .ok (.ireturn, 1) := by decide +kernel
theorem dL_law_1350 : decode cL_law 1350 = .ok (.iinc 4 4, 3) := by decide +kernel
theorem dL_law_1353 : decode cL_law 1353 = .ok (.goto (-1330), 3) := by decide +kernel
theorem dL_law_1356 : decode cL_law 1356 = .ok (.iconst 1, 1) := by decide +kernel
theorem dL_law_1357 : decode cL_law 1357 = .ok (.ireturn, 1) := by decide +kernel
abbrev vwCl : List vw_C := [(RX0, TX0, 2), (RX1, TX1, 3), (RX2, TX2, 3), (RX3, TX3, 10), (RX4, TX4, 16)]
end
section
/-! The base layer: a memory by roles. ad: the address of a role; g: what the cell of a role holds; N roles in all. -/
section MB
abbrev mC : Type := va_G × (Nat × Nat × Nat) × (Nat × Nat)
def mTys (k : mC) : List (ClassId × FieldType) := [(k.2.1.1, .int), (k.2.1.2.1, .object "TapePrinter$Row"), (k.2.1.2.2, .long)]
def cdT : List Nat := [0, 1, 3, 5, 6, 7, 9, 10, 11, 12, 13, 14, 15, 16, 17, 18, 19, 20, 21, 22, 23, 24, 25, 26, 28, 29, 30, 1, 3, 5, 6, 7, 9, 10, 11, 12, 13, 14, 15, 16, 17, 18, 19, 20, 21, 22, 23, 24, 25, 26, 28, 29, 30, 4, 2]
/-- the code of a character -/
def cd (x : Nat) : Nat := cdT.getD x 0
def chT : List Nat := [0, 1, 54, 2, 53, 3, 4, 5, 0, 6, 7, 8, 9, 10, 11, 12, 13, 14, 15, 16, 17, 18, 19, 20, 21, 22, 23, 0, 24, 25, 26, 0]
/-- the character of a code, by letters -/
def chL (c : Nat) : Nat := chT.getD c 0
def bI (b : Bool) : Int32 := if b then 1 else 0
theorem bI_nar (b : Bool) : narrow .boolean (.int (bI b)) = .int (bI b) := by cases b <;> rfl
theorem bI_fit (b : Bool) : fits .boolean (.int (bI b)) = true := by cases b <;> rfl
theorem bI_0 {b : Bool} (h : bI b = 0) : b = false := by cases b <;> first | rfl | exact absurd h (by decide)
theorem bI_1 {b : Bool} (h : ¬ bI b = 0) : b = true := by cases b <;> first | rfl | exact absurd rfl h
theorem bI_inj {a b : Bool} (h : bI a = bI b) : a = b := by cases a <;> cases b <;> first | rfl | exact absurd h (by decide)
def mST : List (Nat × String) := [(38, "no such character"), (50, "no such code"), (65, "no such place of the table"), (69, "too early or too late"), (72, "no such units"), (81, "no such play"), (101, "the tape is full"), (120, "the tape has no room"), (125, "no such place of the tape"), (133, "too few or too many"), (149, "no such line or place"), (151, "no such line"), (153, "nothing such is counted")]
def mK (k : mC) (A : Nat → Prop) (U : State) (H : Heap) : Prop :=
  va_K k.1 vwCl (mTys k) U ∧ (va_Z RX3 "CODES" "[I" (.ref k.2.2.1) A U H ∧ va_T .int k.2.2.1 55 (fun j => .int (nI (cd j))) A U H) ∧
  (va_Z RX3 "CHARACTERS" "[I" (.ref k.2.2.2) A U H ∧ va_T .int k.2.2.2 32 (fun j => .int (nI (chL j))) A U H) ∧
  (vx_Zq Bundle.tN "UNASSIGNED_STACK" Bundle.steD A U H ∧ vx_Zq Bundle.tN "SUPPRESSED_SENTINEL" Bundle.listD A U H) ∧ ∀ q ∈ mST, ∃ a : Nat, vk_R RX3 q.1 q.2 a U
theorem mK.call {k : mC} {A A' : Nat → Prop} {s U : State} {H : Heap} {locs : List Loc} (h : mK k A s s.heap) (hS : va_S A s.heap H locs) (hA : ∀ q, A' q → A q) (hU : U.heap = H) (hW : s.WarmedH U.vm) : mK k A' U U.heap := by
  subst hU
  obtain ⟨h1, ⟨h2, h3⟩, ⟨h4, h5⟩, ⟨h6, h7⟩, h8⟩ := h
  refine ⟨va_K.moved hW.alike h1, ⟨?_, ?_⟩, ⟨?_, ?_⟩, ⟨?_, ?_⟩, fun q hq => ?_⟩
  · exact va_Z.narrow (va_Z.moved hW.alike (va_Z.kept h2 hS.2.1)) hA
  · exact va_T.narrow (va_T.moved hW.alike (va_T.kept h3 hS.2.1)) hA
  · exact va_Z.narrow (va_Z.moved hW.alike (va_Z.kept h4 hS.2.1)) hA
  · exact va_T.narrow (va_T.moved hW.alike (va_T.kept h5 hS.2.1)) hA
  · exact vx_Zq.narrow (vx_Zq.moved hW.alike (vx_Zq.kept h6 hS.2.1)) hA
  · exact vx_Zq.narrow (vx_Zq.moved hW.alike (vx_Zq.kept h7 hS.2.1)) hA
  · obtain ⟨a, ha⟩ := h8 q hq
    exact ⟨a, vk_R.warm hW ha⟩
theorem mK.blind {k : mC} {A : Nat → Prop} {U : State} {gg : JFrame} {mk : MethodId} {a : Array Value} (h : mK k A U U.heap) : mK k A (U.calling gg mk a) (U.calling gg mk a).heap :=
  mK.call (U := U.calling gg mk a) h va_S.rf (fun _ h => h) rfl (State.WarmedH.refl U)
/-- the world: the cell of each role -/
def mw (ad : Nat → Nat) (N : Nat) (g : Nat → va_E) : va_W := (List.range N).map (fun i => (ad i, g i))
theorem mw_at {ad : Nat → Nat} {N : Nat} {g : Nat → va_E} {i : Nat} (hi : i < N) : (mw ad N g)[i]? = some (ad i, g i) := by
  simp [mw, hi]
theorem mw_at' {ad : Nat → Nat} {N : Nat} {g : Nat → va_E} {i : Nat} {e : va_E} (hi : i < N) (he : g i = e) : (mw ad N g)[i]? = some (ad i, e) := by
  rw [mw_at hi, he]
theorem mw_lt {ad : Nat → Nat} {N : Nat} {g : Nat → va_E} {i : Nat} {q : Nat × va_E} (h : (mw ad N g)[i]? = some q) : i < N ∧ q = (ad i, g i) := by
  have h1 := (List.getElem?_eq_some_iff.mp h).1
  have h2 : i < N := by simpa [mw] using h1
  refine ⟨h2, ?_⟩
  rw [mw_at h2] at h
  exact (Option.some.inj h).symm
theorem mw_set {ad : Nat → Nat} {N : Nat} {g : Nat → va_E} {i : Nat} {e : va_E} (hi : i < N) : (mw ad N g).set i (ad i, e) = mw ad N (va_up g i e) := by
  apply List.ext_getElem?
  intro j
  by_cases hj : j = i
  · subst hj
    rw [mw_at hi, va_up_self, List.getElem?_set_self (by simpa [mw] using hi)]
  · rw [List.getElem?_set_ne (Ne.symm hj)]
    by_cases hN : j < N
    · rw [mw_at hN, mw_at hN, va_up_ne _ _ hj]
    · rw [List.getElem?_eq_none (by simp [mw]; omega), List.getElem?_eq_none (by simp [mw]; omega)]
theorem mw_push {ad : Nat → Nat} {N : Nat} {g : Nat → va_E} {q : Nat} {e : va_E} : mw ad N g ++ [(q, e)] = mw (va_up ad N q) (N + 1) (va_up g N e) := by
  simp only [mw, List.range_succ, List.map_append, List.map_cons, List.map_nil, va_up_self]
  congr 1
  apply List.map_congr_left
  intro j hj
  have h1 : j < N := List.mem_range.mp hj
  have h2 : j ≠ N := by omega
  rw [va_up_ne _ _ h2, va_up_ne _ _ h2]
def mJ (ad : Nat → Nat) (N : Nat) : Prop := ∀ i j, i < N → j < N → ad i = ad j → i = j
theorem mw_D {ad : Nat → Nat} {N : Nat} {g : Nat → va_E} {A : Nat → Prop} (hJ : mJ ad N) (hA : ∀ i, i < N → A (ad i)) : va_D A (mw ad N g) := by
  refine ⟨fun i j p q hi hj h => ?_, fun i q hi => ?_⟩
  · obtain ⟨h1, rfl⟩ := mw_lt hi
    obtain ⟨h2, rfl⟩ := mw_lt hj
    exact hJ i j h1 h2 h
  · obtain ⟨h1, rfl⟩ := mw_lt hi
    exact hA i h1
theorem mw_J {ad : Nat → Nat} {N : Nat} {g : Nat → va_E} {A : Nat → Prop} (h : va_D A (mw ad N g)) : mJ ad N ∧ ∀ i, i < N → A (ad i) :=
  ⟨fun i j hi hj e => h.1 i j _ _ (mw_at hi) (mw_at hj) e, fun i hi => h.2 i _ (mw_at hi)⟩
def mA (ad : Nat → Nat) (N sz : Nat) : Nat → Prop := fun q => (∃ i, i < N ∧ ad i = q) ∨ sz ≤ q
/-- what stays all through a method: the tables, the roles apart -/
def mE (k : mC) (ad : Nat → Nat) (N : Nat) (A : Nat → Prop) (s : State) : Prop := mK k A s s.heap ∧ mJ ad N ∧ (∀ i, i < N → A (ad i)) ∧ (∀ q, s.heap.size ≤ q → A q)
/-- the world now -/
def mI (k : mC) (ad : Nat → Nat) (N : Nat) (g : Nat → va_E) (A : Nat → Prop) (s : State) (H : Heap) (locs : List Loc) : Prop := va_P k.1 vwCl (mw ad N g) H ∧ va_S A s.heap H locs
theorem mA_sub {k : mC} {ad : Nat → Nat} {N : Nat} {g : Nat → va_E} {A : Nat → Prop} {s : State} {H : Heap} {locs : List Loc} (hE : mE k ad N A s) (hI : mI k ad N g A s H locs) : ∀ q, mA ad N H.size q → A q := by
  intro q h
  rcases h with ⟨i, hi, rfl⟩ | h
  · exact hE.2.2.1 i hi
  · exact hE.2.2.2 q (Nat.le_trans hI.2.1 h)
def mPc (k : mC) (ad : Nat → Nat) (N : Nat) (g : Nat → va_E) (sz : Nat) (av : List Value) : Array Value → State → Prop := va_Pc av (fun U => U.heap.size = sz ∧ mK k (mA ad N sz) U U.heap ∧ va_P k.1 vwCl (mw ad N g) U.heap ∧ mJ ad N)
theorem mPc.blind {k : mC} {ad : Nat → Nat} {N : Nat} {g : Nat → va_E} {sz : Nat} {av : List Value} : FrameBlind (mPc k ad N g sz av) := fun a U gg mk h => ⟨h.1, h.2.1, mK.blind h.2.2.1, h.2.2.2.1, h.2.2.2.2⟩
def mB (k : mC) (ad : Nat → Nat) (N : Nat) (g : Nat → va_E) (t : State) : Prop := va_P k.1 vwCl (mw ad N g) t.heap
def mCi (k : mC) (l : Launch) (y : MethodName) (ws : List Cond) (rm : Room) (ad : Nat → Nat) (N : Nat) (g : Nat → va_E) (sz : Nat) (av : List Value) (post : Int32 → (Nat → va_E) → Prop) : Prop :=
  Met l y ws rm (mPc k ad N g sz av) (va_Qi post (mB k ad N) (mA ad N sz)) 0 0 (mA ad N sz)
def mCl (k : mC) (l : Launch) (y : MethodName) (ws : List Cond) (rm : Room) (ad : Nat → Nat) (N : Nat) (g : Nat → va_E) (sz : Nat) (av : List Value) (post : Int64 → (Nat → va_E) → Prop) : Prop :=
  Met l y ws rm (mPc k ad N g sz av) (va_Ql post (mB k ad N) (mA ad N sz)) 0 0 (mA ad N sz)
def mCv (k : mC) (l : Launch) (y : MethodName) (ws : List Cond) (rm : Room) (ad : Nat → Nat) (N : Nat) (g : Nat → va_E) (sz : Nat) (av : List Value) (post : (Nat → va_E) → Prop) : Prop :=
  Met l y ws rm (mPc k ad N g sz av) (va_Qv post (mB k ad N) (mA ad N sz)) 0 0 (mA ad N sz)
def mCq (k : mC) (l : Launch) (y : MethodName) (ws : List Cond) (rm : Room) (ad : Nat → Nat) (N : Nat) (g : Nat → va_E) (sz : Nat) (av : List Value) (post : Option Nat → (Nat → va_E) → Prop) : Prop :=
  Met l y ws rm (mPc k ad N g sz av) (va_Qq post (mB k ad N) (mA ad N sz)) 0 0 (mA ad N sz)
/-- a contract's body -/
theorem mOf {k : mC} {l : Launch} {y : MethodName} {ws ws' : List Cond} {rm : Room} {ad : Nat → Nat} {N : Nat} {g : Nat → va_E} {sz : Nat} {av : List Value} {cc : ByteArray} {maxL : Nat} {ret : Option FieldType} {Qc : Nat → Array Value → State → Outcome → State → Prop}
    (hy : plainName y.cls = true) (hw : ws = Cond.code y cc maxL ret :: ws') (hav : (lg_sl av).length ≤ maxL)
    (body : ∀ (p : Program) (e : Env) (s : State) (m : MethodId) (below : List Frame) (meth : Method) (c : Code), p.tables.exec = Jvm.exec → c.code = cc → meth.sig.returnType = ret → (∀ w ∈ ws, w.before av.toArray s = true) → s.vm.findClass y.cls = some m.cls → meth.locks = false → c.maxLocals = maxL → meth.name = y.name →
      mE k ad N (mA ad N s.heap.size) s → mI k ad N g (mA ad N s.heap.size) s s.heap [] → ∀ ls : Array Slot, lv_has ls maxL (lv_args 0 av) →
      W p l e rm s m av.toArray below meth c s.heap [] 0 0 (MQ below (Qc s.heap.size) av.toArray s 0 0 (mA ad N s.heap.size)) (F0 m 0 ls [])) :
    Met l y ws rm (mPc k ad N g sz av) (Qc sz) 0 0 (mA ad N sz) := by
  refine Met.ofW (cc := cc) (maxL := maxL) (ret := ret) hy hw ?_
  intro p e s m args below meth c s₁ B hml hv
  obtain ⟨rfl, hsz, hK, hP, hJ⟩ := hv
  subst hsz
  rw [lg_entry_eq]
  exact body p e s m below meth c B.exec B.bytes B.returns (atoms_spec (ws := ws) B.pre) (findClass_of_methodNamed B.named) B.notSynchronized hml (name_of_methodNamed B.named B.method).1 ⟨hK, hJ, fun i hi => Or.inl ⟨i, hi, rfl⟩, fun q hq => Or.inr hq⟩ ⟨hP, va_S.rf⟩ _ (lv_entry av hav)
section MR
variable {p : Program} {l : Launch} {e : Env} {R : Room} {s : State} {m : MethodId} {args : Array Value} {below : List Frame} {meth : Method} {c : Code} {H : Heap} {locs : List Loc} {cells slots : Nat} {Q : State → Prop}
variable {cc : ByteArray} {pc : Nat} {ls : Array Slot} {rest : List Value} {k : mC} {ad : Nat → Nat} {N : Nat} {g : Nat → va_E} {A : Nat → Prop}
theorem m_top {x y : Int32} (h : x = y) (kk : W p l e R s m args below meth c H locs cells slots Q (F0 m pc ls (.int y :: rest))) : W p l e R s m args below meth c H locs cells slots Q (F0 m pc ls (.int x :: rest)) := by rw [h]; exact kk
theorem m_topl {x y : Int64} (h : x = y) (kk : W p l e R s m args below meth c H locs cells slots Q (F0 m pc ls (.long y :: rest))) : W p l e R s m args below meth c H locs cells slots Q (F0 m pc ls (.long x :: rest)) := by rw [h]; exact kk
theorem m_get (hx : p.tables.exec = Jvm.exec) (hb : c.code = cc) {own C : String} {T : u_T} {N' ci index : Nat} {Ts : List Cond} (hts : ∀ w ∈ Ts, w.before args s = true) (hin : ∀ w ∈ u_ws C T N', w ∈ Ts) (hown : s.vm.findClass own = some m.cls)
    (hE : mE k ad N A s) (hI : mI k ad N g A s H locs) (i : Nat) (hi : i < N) {fs : List Value} (he : g i = .inr (ci, fs)) (hc : vwCl[ci]? = some (C, T, N')) (f : Nat) (hf : f < N') (hlink : (Cond.fieldLink own index (T f).1 (T f).2.1 (T f).2.2.1).before args s = true) {v : Value} (hv : fs[f]? = some v)
    (hdg : decode cc pc = .ok (.getfield index, 3)) (kk : W p l e R s m args below meth c H locs cells slots Q (F0 m (pc + 3) ls (v :: rest))) : W p l e R s m args below meth c H locs cells slots Q (F0 m pc ls (.ref (ad i) :: rest)) :=
  va_get (D := k.1) (cl := vwCl) (ref := (T f).1) hx hb hts hin hown hE.1.1 hI.1 i (mw_at' hi he) hc f hf hlink (fun _ h => h) hv hdg kk
theorem m_put (hx : p.tables.exec = Jvm.exec) (hb : c.code = cc) {own C : String} {T : u_T} {N' ci index : Nat} {Ts : List Cond} (hts : ∀ w ∈ Ts, w.before args s = true) (hin : ∀ w ∈ u_ws C T N', w ∈ Ts) (ty0 : Nat → FieldType) (hty : ∀ k, k < N' → parseFieldDescriptor (T k).2.2.1 = some (ty0 k)) (hnm : ∀ a, a < N' → ∀ b, b < N' → a ≠ b → (T a).2.1 ≠ (T b).2.1) (hown : s.vm.findClass own = some m.cls)
    (hE : mE k ad N A s) (hI : mI k ad N g A s H locs) (i : Nat) (hi : i < N) {fs : List Value} (he : g i = .inr (ci, fs)) (hc : vwCl[ci]? = some (C, T, N')) (f : Nat) (hf : f < N') (hlink : (Cond.fieldLink own index (T f).1 (T f).2.1 (T f).2.2.1).before args s = true) (hfin : (T f).2.2.2 = false) {ty : FieldType} {v : Value} (hd : parseFieldDescriptor (T f).2.2.1 = some ty) (hn : narrow ty v = v) (hfit : fits ty v = true) (hl : f < fs.length)
    (hdg : decode cc pc = .ok (.putfield index, 3)) (kk : ∀ (H : Heap) (locs : List Loc), mI k ad N (va_up g i (.inr (ci, fs.set f v))) A s H locs → W p l e R s m args below meth c H locs cells slots Q (F0 m (pc + 3) ls rest)) : W p l e R s m args below meth c H locs cells slots Q (F0 m pc ls (v :: .ref (ad i) :: rest)) :=
  va_put (D := k.1) (cl := vwCl) (ref := (T f).1) hx hb hts hin ty0 hty hnm hown hE.1.1 hI.1 (mw_D hE.2.1 hE.2.2.1) hI.2 i (mw_at' hi he) hc f hf hlink (fun _ h => h) hfin hd hn hfit hl hdg (fun H1 locs1 hP _ hS => kk H1 locs1 ⟨by rw [mw_set hi] at hP; exact hP, hS⟩)
theorem m_putF (hx : p.tables.exec = Jvm.exec) (hb : c.code = cc) {own C : String} {T : u_T} {N' ci index : Nat} {Ts : List Cond} (hts : ∀ w ∈ Ts, w.before args s = true) (hin : ∀ w ∈ u_ws C T N', w ∈ Ts) (ty0 : Nat → FieldType) (hty : ∀ k, k < N' → parseFieldDescriptor (T k).2.2.1 = some (ty0 k)) (hnm : ∀ a, a < N' → ∀ b, b < N' → a ≠ b → (T a).2.1 ≠ (T b).2.1) (hown : s.vm.findClass own = some m.cls)
    (hE : mE k ad N A s) (hI : mI k ad N g A s H locs) (i : Nat) (hi : i < N) {fs : List Value} (he : g i = .inr (ci, fs)) (hc : vwCl[ci]? = some (C, T, N')) (f : Nat) (hf : f < N') (hlink : (Cond.fieldLink own index (T f).1 (T f).2.1 (T f).2.2.1).before args s = true) (hfin : (T f).2.2.2 = true) (hin2 : meth.name = "<init>") (hdecl : (T f).1 = own) {ty : FieldType} {v : Value} (hd : parseFieldDescriptor (T f).2.2.1 = some ty) (hn : narrow ty v = v) (hfit : fits ty v = true) (hl : f < fs.length)
    (hdg : decode cc pc = .ok (.putfield index, 3)) (kk : ∀ (H : Heap) (locs : List Loc), mI k ad N (va_up g i (.inr (ci, fs.set f v))) A s H locs → W p l e R s m args below meth c H locs cells slots Q (F0 m (pc + 3) ls rest)) : W p l e R s m args below meth c H locs cells slots Q (F0 m pc ls (v :: .ref (ad i) :: rest)) :=
  va_putF (D := k.1) (cl := vwCl) (ref := (T f).1) hx hb hts hin ty0 hty hnm hown hE.1.1 hI.1 (mw_D hE.2.1 hE.2.2.1) hI.2 i (mw_at' hi he) hc f hf hlink (fun _ h => h) hfin hin2 hdecl hd hn hfit hl hdg (fun H1 locs1 hP _ hS => kk H1 locs1 ⟨by rw [mw_set hi] at hP; exact hP, hS⟩)
theorem m_iald (hx : p.tables.exec = Jvm.exec) (hb : c.code = cc) (hE : mE k ad N A s) (hI : mI k ad N g A s H locs) (i : Nat) (hi : i < N) {n : Nat} {f : Nat → Int32} (he : g i = .inl (k.2.1.1, n, .inl f)) {j : Nat} (hj : j < n) (hn : n < 2147483648) (hdg : decode cc pc = .ok (.iaload, 1))
    (kk : W p l e R s m args below meth c H locs cells slots Q (F0 m (pc + 1) ls (.int (f j) :: rest))) : W p l e R s m args below meth c H locs cells slots Q (F0 m pc ls (.int (nI j) :: .ref (ad i) :: rest)) :=
  va_iald (D := k.1) (cl := vwCl) hx hb hE.1.1 hI.1 i 0 (mw_at' hi he) rfl (vp_in_nI hj hn) hdg (by rw [nI_clamp (by omega)]; exact kk)
theorem m_lald (hx : p.tables.exec = Jvm.exec) (hb : c.code = cc) (hE : mE k ad N A s) (hI : mI k ad N g A s H locs) (i : Nat) (hi : i < N) {n : Nat} {f : Nat → Int64} (he : g i = .inl (k.2.1.2.2, n, .inr (.inl f))) {j : Nat} (hj : j < n) (hn : n < 2147483648) (hdg : decode cc pc = .ok (.laload, 1))
    (kk : W p l e R s m args below meth c H locs cells slots Q (F0 m (pc + 1) ls (.long (f j) :: rest))) : W p l e R s m args below meth c H locs cells slots Q (F0 m pc ls (.int (nI j) :: .ref (ad i) :: rest)) :=
  va_lald (D := k.1) (cl := vwCl) hx hb hE.1.1 hI.1 i 2 (mw_at' hi he) rfl (vp_in_nI hj hn) hdg (by rw [nI_clamp (by omega)]; exact kk)
theorem m_aldq (hx : p.tables.exec = Jvm.exec) (hb : c.code = cc) (hE : mE k ad N A s) (hI : mI k ad N g A s H locs) (i : Nat) (hi : i < N) {n : Nat} {f : Nat → Option Nat} (he : g i = .inl (k.2.1.2.1, n, .inr (.inr (.inr (.inr f))))) {j : Nat} (hj : j < n) (hn : n < 2147483648) (hdg : decode cc pc = .ok (.aaload, 1))
    (kk : W p l e R s m args below meth c H locs cells slots Q (F0 m (pc + 1) ls (va_rf (f j) :: rest))) : W p l e R s m args below meth c H locs cells slots Q (F0 m pc ls (.int (nI j) :: .ref (ad i) :: rest)) :=
  va_aldq (D := k.1) (cl := vwCl) (C := "TapePrinter$Row") hx hb hE.1.1 hI.1 i 1 (mw_at' hi he) rfl (vp_in_nI hj hn) hdg (by rw [nI_clamp (by omega)]; exact kk)
theorem m_iast (hx : p.tables.exec = Jvm.exec) (hb : c.code = cc) (hE : mE k ad N A s) (hI : mI k ad N g A s H locs) (i : Nat) (hi : i < N) {n : Nat} {f : Nat → Int32} (he : g i = .inl (k.2.1.1, n, .inl f)) {j : Nat} {x : Int32} (hj : j < n) (hn : n < 2147483648) (hdg : decode cc pc = .ok (.iastore, 1))
    (kk : ∀ (H : Heap) (locs : List Loc), mI k ad N (va_up g i (.inl (k.2.1.1, n, .inl (upd f j x)))) A s H locs → W p l e R s m args below meth c H locs cells slots Q (F0 m (pc + 1) ls rest)) : W p l e R s m args below meth c H locs cells slots Q (F0 m pc ls (.int x :: .int (nI j) :: .ref (ad i) :: rest)) :=
  va_iast (D := k.1) (cl := vwCl) hx hb hE.1.1 hI.1 (mw_D hE.2.1 hE.2.2.1) hI.2 i 0 (mw_at' hi he) rfl (vp_in_nI hj hn) hdg (fun H1 locs1 hP _ hS => kk H1 locs1 ⟨by rw [mw_set hi, nI_clamp (by omega)] at hP; exact hP, hS⟩)
theorem m_last (hx : p.tables.exec = Jvm.exec) (hb : c.code = cc) (hE : mE k ad N A s) (hI : mI k ad N g A s H locs) (i : Nat) (hi : i < N) {n : Nat} {f : Nat → Int64} (he : g i = .inl (k.2.1.2.2, n, .inr (.inl f))) {j : Nat} {x : Int64} (hj : j < n) (hn : n < 2147483648) (hdg : decode cc pc = .ok (.lastore, 1))
    (kk : ∀ (H : Heap) (locs : List Loc), mI k ad N (va_up g i (.inl (k.2.1.2.2, n, .inr (.inl (vp_updL f j x))))) A s H locs → W p l e R s m args below meth c H locs cells slots Q (F0 m (pc + 1) ls rest)) : W p l e R s m args below meth c H locs cells slots Q (F0 m pc ls (.long x :: .int (nI j) :: .ref (ad i) :: rest)) :=
  va_last (D := k.1) (cl := vwCl) hx hb hE.1.1 hI.1 (mw_D hE.2.1 hE.2.2.1) hI.2 i 2 (mw_at' hi he) rfl (vp_in_nI hj hn) hdg (fun H1 locs1 hP _ hS => kk H1 locs1 ⟨by rw [mw_set hi, nI_clamp (by omega)] at hP; exact hP, hS⟩)
theorem m_aleni (hx : p.tables.exec = Jvm.exec) (hb : c.code = cc) (hE : mE k ad N A s) (hI : mI k ad N g A s H locs) (i : Nat) (hi : i < N) {n : Nat} {f : Nat → Int32} (he : g i = .inl (k.2.1.1, n, .inl f)) (hdg : decode cc pc = .ok (.arraylength, 1))
    (kk : W p l e R s m args below meth c H locs cells slots Q (F0 m (pc + 1) ls (.int (nI n) :: rest))) : W p l e R s m args below meth c H locs cells slots Q (F0 m pc ls (.ref (ad i) :: rest)) :=
  va_alen (D := k.1) (cl := vwCl) hx hb hE.1.1 hI.1 i 0 (mw_at' hi he) rfl rfl hdg kk
theorem m_alenq (hx : p.tables.exec = Jvm.exec) (hb : c.code = cc) (hE : mE k ad N A s) (hI : mI k ad N g A s H locs) (i : Nat) (hi : i < N) {n : Nat} {f : Nat → Option Nat} (he : g i = .inl (k.2.1.2.1, n, .inr (.inr (.inr (.inr f))))) (hdg : decode cc pc = .ok (.arraylength, 1))
    (kk : W p l e R s m args below meth c H locs cells slots Q (F0 m (pc + 1) ls (.int (nI n) :: rest))) : W p l e R s m args below meth c H locs cells slots Q (F0 m pc ls (.ref (ad i) :: rest)) :=
  va_alen (D := k.1) (cl := vwCl) hx hb hE.1.1 hI.1 i 1 (mw_at' hi he) rfl rfl hdg kk
-- ends
theorem m_iret (hx : p.tables.exec = Jvm.exec) (hb : c.code = cc) (hr : meth.sig.returnType = some .int) (hlocks : meth.locks = false) (hI : mI k ad N g A s H locs) {post : Int32 → (Nat → va_E) → Prop} {v : Int32} (hp : post v g) (hdg : decode cc pc = .ok (.ireturn, 1)) :
    W p l e R s m args below meth c H locs cells slots (MQ below (va_Qi post (mB k ad N) A) args s cells slots A) (F0 m pc ls [.int v]) :=
  W.iret (v := v) hx hb hr (fun t ht hW => ⟨⟨v, g, rfl, hp, by unfold mB; rw [ht]; exact hI.1⟩, hI.2.F ht⟩) hI.2.2.2 hdg hlocks
theorem m_zret (hx : p.tables.exec = Jvm.exec) (hb : c.code = cc) (hr : meth.sig.returnType = some .boolean) (hlocks : meth.locks = false) (hI : mI k ad N g A s H locs) {post : Int32 → (Nat → va_E) → Prop} {v : Bool} (hp : post (bI v) g) (hdg : decode cc pc = .ok (.ireturn, 1)) :
    W p l e R s m args below meth c H locs cells slots (MQ below (va_Qi post (mB k ad N) A) args s cells slots A) (F0 m pc ls [.int (bI v)]) :=
  W.zret (v := bI v) hx hb hr (bI_nar v) (fun t ht hW => ⟨⟨bI v, g, rfl, hp, by unfold mB; rw [ht]; exact hI.1⟩, hI.2.F ht⟩) hI.2.2.2 hdg hlocks
theorem m_vret (hx : p.tables.exec = Jvm.exec) (hb : c.code = cc) (hr : meth.sig.returnType = none) (hlocks : meth.locks = false) (hI : mI k ad N g A s H locs) {post : (Nat → va_E) → Prop} (hp : post g) (hdg : decode cc pc = .ok (.return_, 1)) :
    W p l e R s m args below meth c H locs cells slots (MQ below (va_Qv post (mB k ad N) A) args s cells slots A) (F0 m pc ls []) :=
  W.vret hx hb hr (fun t ht hW => ⟨⟨g, rfl, hp, by unfold mB; rw [ht]; exact hI.1⟩, hI.2.F ht⟩) hI.2.2.2 hdg hlocks
theorem m_lret (hx : p.tables.exec = Jvm.exec) (hb : c.code = cc) (hr : meth.sig.returnType = some .long) (hlocks : meth.locks = false) (hI : mI k ad N g A s H locs) {post : Int64 → (Nat → va_E) → Prop} {v : Int64} (hp : post v g) (hdg : decode cc pc = .ok (.lreturn, 1)) :
    W p l e R s m args below meth c H locs cells slots (MQ below (va_Ql post (mB k ad N) A) args s cells slots A) (F0 m pc ls [.long v]) :=
  W.lret (v := v) hx hb hr (fun t ht hW => ⟨⟨v, g, rfl, hp, by unfold mB; rw [ht]; exact hI.1⟩, hI.2.F ht⟩) hI.2.2.2 hdg hlocks
theorem m_aret (hx : p.tables.exec = Jvm.exec) (hb : c.code = cc) {T : String} (hr : meth.sig.returnType = some (.object T)) (hlocks : meth.locks = false) (hI : mI k ad N g A s H locs) {post : Option Nat → (Nat → va_E) → Prop} {v : Option Nat} (hp : post v g) (hdg : decode cc pc = .ok (.areturn, 1)) :
    W p l e R s m args below meth c H locs cells slots (MQ below (va_Qq post (mB k ad N) A) args s cells slots A) (F0 m pc ls [va_rf v]) :=
  W.aret (v := va_rf v) hx hb hr (Or.inl ⟨_, rfl⟩) (by cases v with
    | none => exact Or.inl rfl
    | some a => exact Or.inr ⟨a, rfl⟩) (fun t ht hW => ⟨⟨v, g, rfl, hp, by unfold mB; rw [ht]; exact hI.1⟩, hI.2.F ht⟩) hI.2.2.2 hdg hlocks
-- calls
variable {y : MethodName} {bytes : ByteArray} {maxL nL n index : Nat} {ret : Option FieldType} {ws : List Cond} {rm : Room} {Ts : List Cond} {own C : String} {As : List Value} {st0 : List Value}
theorem m_preV (hE : mE k ad N A s) (hI : mI k ad N g A s H locs) {ci i : Nat} {fs : List Value} {T : u_T} {N' : Nat} (hi : i < N) (he : g i = .inr (ci, fs)) (hc : vwCl[ci]? = some (C, T, N')) : PreV s H C (ad i) (mPc k ad N g H.size (.ref (ad i) :: As)) As :=
  ⟨mPc.blind, va_recv hE.1.1 hI.1 hc (mw_at' hi he), fun U hU hW => ⟨rfl, by rw [hU], mK.call hE.1 hI.2 (mA_sub hE hI) hU hW, by rw [hU]; exact hI.1, hE.2.1⟩⟩
theorem m_preS (hE : mE k ad N A s) (hI : mI k ad N g A s H locs) : PreS s H (mPc k ad N g H.size As) As :=
  ⟨mPc.blind, fun U hU hW => ⟨rfl, by rw [hU], mK.call hE.1 hI.2 (mA_sub hE hI) hU hW, by rw [hU]; exact hI.1, hE.2.1⟩⟩
theorem m_callVi (hfix : CallFix p m c cc nL s args Ts own) (hE : mE k ad N A s) (hI : mI k ad N g A s H locs) {post : Int32 → (Nat → va_E) → Prop} {i : Nat} (hM : mCi k l y ws rm ad N g H.size (.ref (ad i) :: As) post) (cw : CallW R s args own C index y bytes maxL ret ws rm 0 0 n) {ci : Nat} {fs : List Value} {T : u_T} {N' : Nat} (hi : i < N) (he : g i = .inr (ci, fs)) (hc : vwCl[ci]? = some (C, T, N'))
    (hn : As.length = n) (hsize : ls.size = nL) (hst : st0 = As.reverse ++ .ref (ad i) :: rest) (hW : (rest.map fun v => v.category).sum ≤ 8) (hdg : decode cc pc = .ok (.invokevirtual index, 3)) (hf : cells ≤ R.cells ∧ slots ≤ R.slots)
    (kk : ∀ (r : Int32) (g : Nat → va_E) (H : Heap) (locs : List Loc), post r g → mI k ad N g A s H locs → W p l e R s m args below meth c H locs cells slots Q (F0 m (pc + 3) ls (.int r :: rest))) : W p l e R s m args below meth c H locs cells slots Q (F0 m pc ls st0) :=
  va_calli (va_runV (As := As) (rest := rest) hfix hM cw (m_preV hE hI hi he hc) rfl hn hsize hst (lv_room hW) hdg hf) hI.2 (fun q _ h => mA_sub hE hI q h) (mA_sub hE hI) (fun r g' t H1 locs1 ht hvm hp hB hz hk hS => kk r g' H1 locs1 hp ⟨by rw [← ht]; exact hB, hS⟩)
theorem m_callVl (hfix : CallFix p m c cc nL s args Ts own) (hE : mE k ad N A s) (hI : mI k ad N g A s H locs) {post : Int64 → (Nat → va_E) → Prop} {i : Nat} (hM : mCl k l y ws rm ad N g H.size (.ref (ad i) :: As) post) (cw : CallW R s args own C index y bytes maxL ret ws rm 0 0 n) {ci : Nat} {fs : List Value} {T : u_T} {N' : Nat} (hi : i < N) (he : g i = .inr (ci, fs)) (hc : vwCl[ci]? = some (C, T, N'))
    (hn : As.length = n) (hsize : ls.size = nL) (hst : st0 = As.reverse ++ .ref (ad i) :: rest) (hW : (rest.map fun v => v.category).sum ≤ 8) (hdg : decode cc pc = .ok (.invokevirtual index, 3)) (hf : cells ≤ R.cells ∧ slots ≤ R.slots)
    (kk : ∀ (r : Int64) (g : Nat → va_E) (H : Heap) (locs : List Loc), post r g → mI k ad N g A s H locs → W p l e R s m args below meth c H locs cells slots Q (F0 m (pc + 3) ls (.long r :: rest))) : W p l e R s m args below meth c H locs cells slots Q (F0 m pc ls st0) :=
  va_calll (va_runV (As := As) (rest := rest) hfix hM cw (m_preV hE hI hi he hc) rfl hn hsize hst (lv_room hW) hdg hf) hI.2 (fun q _ h => mA_sub hE hI q h) (mA_sub hE hI) (fun r g' t H1 locs1 ht hvm hp hB hz hk hS => kk r g' H1 locs1 hp ⟨by rw [← ht]; exact hB, hS⟩)
theorem m_callVv (hfix : CallFix p m c cc nL s args Ts own) (hE : mE k ad N A s) (hI : mI k ad N g A s H locs) {post : (Nat → va_E) → Prop} {i : Nat} (hM : mCv k l y ws rm ad N g H.size (.ref (ad i) :: As) post) (cw : CallW R s args own C index y bytes maxL ret ws rm 0 0 n) {ci : Nat} {fs : List Value} {T : u_T} {N' : Nat} (hi : i < N) (he : g i = .inr (ci, fs)) (hc : vwCl[ci]? = some (C, T, N'))
    (hn : As.length = n) (hsize : ls.size = nL) (hst : st0 = As.reverse ++ .ref (ad i) :: rest) (hW : (rest.map fun v => v.category).sum ≤ 8) (hdg : decode cc pc = .ok (.invokevirtual index, 3)) (hf : cells ≤ R.cells ∧ slots ≤ R.slots)
    (kk : ∀ (g : Nat → va_E) (H : Heap) (locs : List Loc), post g → mI k ad N g A s H locs → W p l e R s m args below meth c H locs cells slots Q (F0 m (pc + 3) ls rest)) : W p l e R s m args below meth c H locs cells slots Q (F0 m pc ls st0) :=
  va_callv (va_runV (As := As) (rest := rest) hfix hM cw (m_preV hE hI hi he hc) rfl hn hsize hst (lv_room hW) hdg hf) hI.2 (fun q _ h => mA_sub hE hI q h) (mA_sub hE hI) (fun g' t H1 locs1 ht hvm hp hB hz hk hS => kk g' H1 locs1 hp ⟨by rw [← ht]; exact hB, hS⟩)
theorem m_callVq (hfix : CallFix p m c cc nL s args Ts own) (hE : mE k ad N A s) (hI : mI k ad N g A s H locs) {post : Option Nat → (Nat → va_E) → Prop} {i : Nat} (hM : mCq k l y ws rm ad N g H.size (.ref (ad i) :: As) post) (cw : CallW R s args own C index y bytes maxL ret ws rm 0 0 n) {ci : Nat} {fs : List Value} {T : u_T} {N' : Nat} (hi : i < N) (he : g i = .inr (ci, fs)) (hc : vwCl[ci]? = some (C, T, N'))
    (hn : As.length = n) (hsize : ls.size = nL) (hst : st0 = As.reverse ++ .ref (ad i) :: rest) (hW : (rest.map fun v => v.category).sum ≤ 8) (hdg : decode cc pc = .ok (.invokevirtual index, 3)) (hf : cells ≤ R.cells ∧ slots ≤ R.slots)
    (kk : ∀ (r : Option Nat) (g : Nat → va_E) (H : Heap) (locs : List Loc), post r g → mI k ad N g A s H locs → W p l e R s m args below meth c H locs cells slots Q (F0 m (pc + 3) ls (va_rf r :: rest))) : W p l e R s m args below meth c H locs cells slots Q (F0 m pc ls st0) :=
  va_callq (va_runV (As := As) (rest := rest) hfix hM cw (m_preV hE hI hi he hc) rfl hn hsize hst (lv_room hW) hdg hf) hI.2 (fun q _ h => mA_sub hE hI q h) (mA_sub hE hI) (fun r g' t H1 locs1 ht hvm hp hB hz hk hS => kk r g' H1 locs1 hp ⟨by rw [← ht]; exact hB, hS⟩)
theorem m_callSi (hfix : CallFix p m c cc nL s args Ts own) (hE : mE k ad N A s) (hI : mI k ad N g A s H locs) {post : Int32 → (Nat → va_E) → Prop} (hM : mCi k l y ws rm ad N g H.size As post) (cw : CallB R s args own index y bytes maxL ret ws rm 0 0 n ∧ (Cond.static y).before args s = true)
    (hn : As.length = n) (hsize : ls.size = nL) (hst : st0 = As.reverse ++ rest) (hW : (rest.map fun v => v.category).sum ≤ 8) (hdg : decode cc pc = .ok (.invokestatic index, 3)) (hf : cells ≤ R.cells ∧ slots ≤ R.slots)
    (kk : ∀ (r : Int32) (g : Nat → va_E) (H : Heap) (locs : List Loc), post r g → mI k ad N g A s H locs → W p l e R s m args below meth c H locs cells slots Q (F0 m (pc + 3) ls (.int r :: rest))) : W p l e R s m args below meth c H locs cells slots Q (F0 m pc ls st0) :=
  va_calli (va_runS (As := As) (rest := rest) hfix hM cw (m_preS hE hI) rfl hn hsize hst (lv_room hW) hdg hf) hI.2 (fun q _ h => mA_sub hE hI q h) (mA_sub hE hI) (fun r g' t H1 locs1 ht hvm hp hB hz hk hS => kk r g' H1 locs1 hp ⟨by rw [← ht]; exact hB, hS⟩)
theorem m_callSl (hfix : CallFix p m c cc nL s args Ts own) (hE : mE k ad N A s) (hI : mI k ad N g A s H locs) {post : Int64 → (Nat → va_E) → Prop} (hM : mCl k l y ws rm ad N g H.size As post) (cw : CallB R s args own index y bytes maxL ret ws rm 0 0 n ∧ (Cond.static y).before args s = true)
    (hn : As.length = n) (hsize : ls.size = nL) (hst : st0 = As.reverse ++ rest) (hW : (rest.map fun v => v.category).sum ≤ 8) (hdg : decode cc pc = .ok (.invokestatic index, 3)) (hf : cells ≤ R.cells ∧ slots ≤ R.slots)
    (kk : ∀ (r : Int64) (g : Nat → va_E) (H : Heap) (locs : List Loc), post r g → mI k ad N g A s H locs → W p l e R s m args below meth c H locs cells slots Q (F0 m (pc + 3) ls (.long r :: rest))) : W p l e R s m args below meth c H locs cells slots Q (F0 m pc ls st0) :=
  va_calll (va_runS (As := As) (rest := rest) hfix hM cw (m_preS hE hI) rfl hn hsize hst (lv_room hW) hdg hf) hI.2 (fun q _ h => mA_sub hE hI q h) (mA_sub hE hI) (fun r g' t H1 locs1 ht hvm hp hB hz hk hS => kk r g' H1 locs1 hp ⟨by rw [← ht]; exact hB, hS⟩)

-- an answer and a memory that are known
theorem m_deti {v : Int32} {g1 : Nat → va_E} (kk : ∀ (H : Heap) (locs : List Loc), mI k ad N g1 A s H locs → W p l e R s m args below meth c H locs cells slots Q (F0 m pc ls (.int v :: rest))) : ∀ (r : Int32) (g : Nat → va_E) (H : Heap) (locs : List Loc), (r = v ∧ g = g1) → mI k ad N g A s H locs → W p l e R s m args below meth c H locs cells slots Q (F0 m pc ls (.int r :: rest)) := by
  rintro r g H locs ⟨rfl, rfl⟩ hI
  exact kk H locs hI
theorem m_detl {v : Int64} {g1 : Nat → va_E} (kk : ∀ (H : Heap) (locs : List Loc), mI k ad N g1 A s H locs → W p l e R s m args below meth c H locs cells slots Q (F0 m pc ls (.long v :: rest))) : ∀ (r : Int64) (g : Nat → va_E) (H : Heap) (locs : List Loc), (r = v ∧ g = g1) → mI k ad N g A s H locs → W p l e R s m args below meth c H locs cells slots Q (F0 m pc ls (.long r :: rest)) := by
  rintro r g H locs ⟨rfl, rfl⟩ hI
  exact kk H locs hI
theorem m_detq {v : Option Nat} {g1 : Nat → va_E} (kk : ∀ (H : Heap) (locs : List Loc), mI k ad N g1 A s H locs → W p l e R s m args below meth c H locs cells slots Q (F0 m pc ls (va_rf v :: rest))) : ∀ (r : Option Nat) (g : Nat → va_E) (H : Heap) (locs : List Loc), (r = v ∧ g = g1) → mI k ad N g A s H locs → W p l e R s m args below meth c H locs cells slots Q (F0 m pc ls (va_rf r :: rest)) := by
  rintro r g H locs ⟨rfl, rfl⟩ hI
  exact kk H locs hI
theorem m_detv {g1 : Nat → va_E} {st : List Value} (kk : ∀ (H : Heap) (locs : List Loc), mI k ad N g1 A s H locs → W p l e R s m args below meth c H locs cells slots Q (F0 m pc ls st)) : ∀ (g : Nat → va_E) (H : Heap) (locs : List Loc), g = g1 → mI k ad N g A s H locs → W p l e R s m args below meth c H locs cells slots Q (F0 m pc ls st) := by
  rintro g H locs rfl hI
  exact kk H locs hI

theorem m_rf {o : Option Nat} {a : Nat} (h : o = some a) (kk : W p l e R s m args below meth c H locs cells slots Q (F0 m pc ls (.ref a :: rest))) : W p l e R s m args below meth c H locs cells slots Q (F0 m pc ls (va_rf o :: rest)) := by
  subst h
  exact kk
theorem m_rfN {o : Option Nat} (h : o = none) (kk : W p l e R s m args below meth c H locs cells slots Q (F0 m pc ls (.null :: rest))) : W p l e R s m args below meth c H locs cells slots Q (F0 m pc ls (va_rf o :: rest)) := by
  subst h
  exact kk
/-- a loop: its invariant, a measure, the memory and the locals at its head -/
theorem m_loop {σ : Type} (Inv : σ → Prop) (μ : σ → Nat) (gf : σ → Nat → va_E) (lf : σ → List (Nat × Value)) {nL : Nat} (x0 : σ) (h0 : Inv x0) (hI0 : mI k ad N (gf x0) A s H locs) (hl0 : lv_has ls nL (lf x0))
    (step : ∀ x : σ, Inv x → (∀ y : σ, Inv y → μ y < μ x → ∀ (H : Heap) (locs : List Loc) (ls : Array Slot), mI k ad N (gf y) A s H locs → lv_has ls nL (lf y) → W p l e R s m args below meth c H locs cells slots Q (F0 m pc ls [])) →
      ∀ (H : Heap) (locs : List Loc) (ls : Array Slot), mI k ad N (gf x) A s H locs → lv_has ls nL (lf x) → W p l e R s m args below meth c H locs cells slots Q (F0 m pc ls [])) :
    W p l e R s m args below meth c H locs cells slots Q (F0 m pc ls []) := by
  have key : ∀ (n : Nat) (x : σ), μ x < n → Inv x → ∀ (H : Heap) (locs : List Loc) (ls : Array Slot), mI k ad N (gf x) A s H locs → lv_has ls nL (lf x) → W p l e R s m args below meth c H locs cells slots Q (F0 m pc ls []) := by
    intro n
    induction n with
    | zero => intro x hx; exact absurd hx (Nat.not_lt_zero _)
    | succ n ih => intro x hx hi; exact step x hi (fun y hy hlt => ih y (by omega) hy)
  exact key (μ x0 + 1) x0 (Nat.lt_succ_self _) h0 H locs ls hI0 hl0
-- small naturals on the stack
theorem m_iaddN (hx : p.tables.exec = Jvm.exec) (hb : c.code = cc) {a b : Nat} (hdg : decode cc pc = .ok (.iadd, 1)) (kk : W p l e R s m args below meth c H locs cells slots Q (F0 m (pc + 1) ls (.int (nI (a + b)) :: rest))) : W p l e R s m args below meth c H locs cells slots Q (F0 m pc ls (.int (nI b) :: .int (nI a) :: rest)) := lv_iadd hx hb hdg (by rw [nI_add]; exact kk)
theorem m_imulN (hx : p.tables.exec = Jvm.exec) (hb : c.code = cc) {a b : Nat} (hdg : decode cc pc = .ok (.imul, 1)) (kk : W p l e R s m args below meth c H locs cells slots Q (F0 m (pc + 1) ls (.int (nI (a * b)) :: rest))) : W p l e R s m args below meth c H locs cells slots Q (F0 m pc ls (.int (nI b) :: .int (nI a) :: rest)) := lv_imul hx hb hdg (by rw [pk_mul]; exact kk)
theorem m_isubN (hx : p.tables.exec = Jvm.exec) (hb : c.code = cc) {a b : Nat} (h : b ≤ a) (hdg : decode cc pc = .ok (.isub, 1)) (kk : W p l e R s m args below meth c H locs cells slots Q (F0 m (pc + 1) ls (.int (nI (a - b)) :: rest))) : W p l e R s m args below meth c H locs cells slots Q (F0 m pc ls (.int (nI b) :: .int (nI a) :: rest)) := lv_isub hx hb hdg (by rw [pk_sub h]; exact kk)
theorem m_iremN (hx : p.tables.exec = Jvm.exec) (hb : c.code = cc) {a b : Nat} (ha : a < 2147483648) (h0 : 0 < b) (hbb : b < 2147483648) (hdg : decode cc pc = .ok (.irem, 1)) (kk : W p l e R s m args below meth c H locs cells slots Q (F0 m (pc + 1) ls (.int (nI (a % b)) :: rest))) : W p l e R s m args below meth c H locs cells slots Q (F0 m pc ls (.int (nI b) :: .int (nI a) :: rest)) := lv_irem hx hb hdg (nI_ne0 h0 hbb) (by rw [pk_rem ha h0 hbb]; exact kk)
theorem m_leN {p q : Nat} (hp : p < 2147483648) (hq : q < 2147483648) : nI p ≤ nI q ↔ p ≤ q := nI_leI hp hq
theorem m_ltN {p q : Nat} (hp : p < 2147483648) (hq : q < 2147483648) : nI p < nI q ↔ p < q := nI_ltI hp hq
theorem m_eqN {p q : Nat} (hp : p < 2147483648) (hq : q < 2147483648) : nI p = nI q ↔ p = q := nI_eq hp hq
theorem m_cgeN (hx : p.tables.exec = Jvm.exec) (hb : c.code = cc) {a b : Nat} (ha : a < 2147483648) (hbb : b < 2147483648) {off : Int} {tgt : Nat} (hdg : decode cc pc = .ok (.if_icmp .ge off, 3)) (ht : (pc : Int) + off = (tgt : Int)) (kt : b ≤ a → W p l e R s m args below meth c H locs cells slots Q (F0 m tgt ls rest)) (kf : a < b → W p l e R s m args below meth c H locs cells slots Q (F0 m (pc + 3) ls rest)) : W p l e R s m args below meth c H locs cells slots Q (F0 m pc ls (.int (nI b) :: .int (nI a) :: rest)) := lv_icmp_ge hx hb hdg ht (fun h => kt ((m_leN hbb ha).mp h)) (fun h => kf (Nat.lt_of_not_le (fun z => h ((m_leN hbb ha).mpr z))))
theorem m_cgtN (hx : p.tables.exec = Jvm.exec) (hb : c.code = cc) {a b : Nat} (ha : a < 2147483648) (hbb : b < 2147483648) {off : Int} {tgt : Nat} (hdg : decode cc pc = .ok (.if_icmp .gt off, 3)) (ht : (pc : Int) + off = (tgt : Int)) (kt : b < a → W p l e R s m args below meth c H locs cells slots Q (F0 m tgt ls rest)) (kf : a ≤ b → W p l e R s m args below meth c H locs cells slots Q (F0 m (pc + 3) ls rest)) : W p l e R s m args below meth c H locs cells slots Q (F0 m pc ls (.int (nI b) :: .int (nI a) :: rest)) := lv_icmp_gt hx hb hdg ht (fun h => kt ((m_ltN hbb ha).mp h)) (fun h => kf (Nat.le_of_not_lt (fun z => h ((m_ltN hbb ha).mpr z))))
theorem m_cltN (hx : p.tables.exec = Jvm.exec) (hb : c.code = cc) {a b : Nat} (ha : a < 2147483648) (hbb : b < 2147483648) {off : Int} {tgt : Nat} (hdg : decode cc pc = .ok (.if_icmp .lt off, 3)) (ht : (pc : Int) + off = (tgt : Int)) (kt : a < b → W p l e R s m args below meth c H locs cells slots Q (F0 m tgt ls rest)) (kf : b ≤ a → W p l e R s m args below meth c H locs cells slots Q (F0 m (pc + 3) ls rest)) : W p l e R s m args below meth c H locs cells slots Q (F0 m pc ls (.int (nI b) :: .int (nI a) :: rest)) := lv_icmp_lt hx hb hdg ht (fun h => kt ((m_ltN ha hbb).mp h)) (fun h => kf (Nat.le_of_not_lt (fun z => h ((m_ltN ha hbb).mpr z))))
theorem m_cleN (hx : p.tables.exec = Jvm.exec) (hb : c.code = cc) {a b : Nat} (ha : a < 2147483648) (hbb : b < 2147483648) {off : Int} {tgt : Nat} (hdg : decode cc pc = .ok (.if_icmp .le off, 3)) (ht : (pc : Int) + off = (tgt : Int)) (kt : a ≤ b → W p l e R s m args below meth c H locs cells slots Q (F0 m tgt ls rest)) (kf : b < a → W p l e R s m args below meth c H locs cells slots Q (F0 m (pc + 3) ls rest)) : W p l e R s m args below meth c H locs cells slots Q (F0 m pc ls (.int (nI b) :: .int (nI a) :: rest)) := lv_icmp_le hx hb hdg ht (fun h => kt ((m_leN ha hbb).mp h)) (fun h => kf (Nat.lt_of_not_le (fun z => h ((m_leN ha hbb).mpr z))))
theorem m_ceqN (hx : p.tables.exec = Jvm.exec) (hb : c.code = cc) {a b : Nat} (ha : a < 2147483648) (hbb : b < 2147483648) {off : Int} {tgt : Nat} (hdg : decode cc pc = .ok (.if_icmp .eq off, 3)) (ht : (pc : Int) + off = (tgt : Int)) (kt : a = b → W p l e R s m args below meth c H locs cells slots Q (F0 m tgt ls rest)) (kf : a ≠ b → W p l e R s m args below meth c H locs cells slots Q (F0 m (pc + 3) ls rest)) : W p l e R s m args below meth c H locs cells slots Q (F0 m pc ls (.int (nI b) :: .int (nI a) :: rest)) := lv_icmp_eq hx hb hdg ht (fun h => kt ((m_eqN ha hbb).mp h)) (fun h => kf (fun z => h ((m_eqN ha hbb).mpr z)))
theorem m_cneN (hx : p.tables.exec = Jvm.exec) (hb : c.code = cc) {a b : Nat} (ha : a < 2147483648) (hbb : b < 2147483648) {off : Int} {tgt : Nat} (hdg : decode cc pc = .ok (.if_icmp .ne off, 3)) (ht : (pc : Int) + off = (tgt : Int)) (kt : a ≠ b → W p l e R s m args below meth c H locs cells slots Q (F0 m tgt ls rest)) (kf : a = b → W p l e R s m args below meth c H locs cells slots Q (F0 m (pc + 3) ls rest)) : W p l e R s m args below meth c H locs cells slots Q (F0 m pc ls (.int (nI b) :: .int (nI a) :: rest)) := lv_icmp_ne hx hb hdg ht (fun h => kt (fun z => h ((m_eqN ha hbb).mpr z))) (fun h => kf ((m_eqN ha hbb).mp h))
theorem m_zltN (hx : p.tables.exec = Jvm.exec) (hb : c.code = cc) {a : Nat} (ha : a < 2147483648) {off : Int} {tgt : Nat} (hdg : decode cc pc = .ok (.ifCond .lt off, 3)) (ht : (pc : Int) + off = (tgt : Int)) (kf : W p l e R s m args below meth c H locs cells slots Q (F0 m (pc + 3) ls rest)) : W p l e R s m args below meth c H locs cells slots Q (F0 m pc ls (.int (nI a) :: rest)) := lv_if_lt hx hb hdg ht (fun h => absurd h (nI_pos ha)) (fun _ => kf)
theorem m_zgeN (hx : p.tables.exec = Jvm.exec) (hb : c.code = cc) {a : Nat} (ha : a < 2147483648) {off : Int} {tgt : Nat} (hdg : decode cc pc = .ok (.ifCond .ge off, 3)) (ht : (pc : Int) + off = (tgt : Int)) (kt : W p l e R s m args below meth c H locs cells slots Q (F0 m tgt ls rest)) : W p l e R s m args below meth c H locs cells slots Q (F0 m pc ls (.int (nI a) :: rest)) := lv_if_ge hx hb hdg ht (fun _ => kt) (fun h => absurd (nI_pos' ha) h)
theorem nI_z {a : Nat} (ha : a < 2147483648) : nI a = 0 ↔ a = 0 := by
  rw [← nI_0]; exact nI_eq ha (by omega)
theorem m_zeqN (hx : p.tables.exec = Jvm.exec) (hb : c.code = cc) {a : Nat} (ha : a < 2147483648) {off : Int} {tgt : Nat} (hdg : decode cc pc = .ok (.ifCond .eq off, 3)) (ht : (pc : Int) + off = (tgt : Int)) (kt : a = 0 → W p l e R s m args below meth c H locs cells slots Q (F0 m tgt ls rest)) (kf : a ≠ 0 → W p l e R s m args below meth c H locs cells slots Q (F0 m (pc + 3) ls rest)) : W p l e R s m args below meth c H locs cells slots Q (F0 m pc ls (.int (nI a) :: rest)) := lv_if_eq hx hb hdg ht (fun h => kt ((nI_z ha).mp h)) (fun h => kf (fun z => h ((nI_z ha).mpr z)))
theorem m_zneN (hx : p.tables.exec = Jvm.exec) (hb : c.code = cc) {a : Nat} (ha : a < 2147483648) {off : Int} {tgt : Nat} (hdg : decode cc pc = .ok (.ifCond .ne off, 3)) (ht : (pc : Int) + off = (tgt : Int)) (kt : a ≠ 0 → W p l e R s m args below meth c H locs cells slots Q (F0 m tgt ls rest)) (kf : a = 0 → W p l e R s m args below meth c H locs cells slots Q (F0 m (pc + 3) ls rest)) : W p l e R s m args below meth c H locs cells slots Q (F0 m pc ls (.int (nI a) :: rest)) := lv_if_ne hx hb hdg ht (fun h => kt (fun z => h ((nI_z ha).mpr z))) (fun h => kf ((nI_z ha).mp h))
theorem m_zleN (hx : p.tables.exec = Jvm.exec) (hb : c.code = cc) {a : Nat} (ha : a < 2147483648) {off : Int} {tgt : Nat} (hdg : decode cc pc = .ok (.ifCond .le off, 3)) (ht : (pc : Int) + off = (tgt : Int)) (kt : a = 0 → W p l e R s m args below meth c H locs cells slots Q (F0 m tgt ls rest)) (kf : 0 < a → W p l e R s m args below meth c H locs cells slots Q (F0 m (pc + 3) ls rest)) : W p l e R s m args below meth c H locs cells slots Q (F0 m pc ls (.int (nI a) :: rest)) :=
  lv_if_le hx hb hdg ht (fun h => kt (by rw [← nI_0] at h; have := (m_leN ha (by omega)).mp h; omega)) (fun h => kf (Nat.pos_of_ne_zero (fun z => h (by rw [z, nI_0]; decide))))
theorem m_zeqB (hx : p.tables.exec = Jvm.exec) (hb : c.code = cc) {b : Bool} {off : Int} {tgt : Nat} (hdg : decode cc pc = .ok (.ifCond .eq off, 3)) (ht : (pc : Int) + off = (tgt : Int)) (kt : b = false → W p l e R s m args below meth c H locs cells slots Q (F0 m tgt ls rest)) (kf : b = true → W p l e R s m args below meth c H locs cells slots Q (F0 m (pc + 3) ls rest)) : W p l e R s m args below meth c H locs cells slots Q (F0 m pc ls (.int (bI b) :: rest)) := lv_if_eq hx hb hdg ht (fun h => kt (bI_0 h)) (fun h => kf (bI_1 h))
theorem m_zneB (hx : p.tables.exec = Jvm.exec) (hb : c.code = cc) {b : Bool} {off : Int} {tgt : Nat} (hdg : decode cc pc = .ok (.ifCond .ne off, 3)) (ht : (pc : Int) + off = (tgt : Int)) (kt : b = true → W p l e R s m args below meth c H locs cells slots Q (F0 m tgt ls rest)) (kf : b = false → W p l e R s m args below meth c H locs cells slots Q (F0 m (pc + 3) ls rest)) : W p l e R s m args below meth c H locs cells slots Q (F0 m pc ls (.int (bI b) :: rest)) := lv_if_ne hx hb hdg ht (fun h => kt (bI_1 h)) (fun h => kf (bI_0 h))
theorem m_ceqB (hx : p.tables.exec = Jvm.exec) (hb : c.code = cc) {a b : Bool} {off : Int} {tgt : Nat} (hdg : decode cc pc = .ok (.if_icmp .eq off, 3)) (ht : (pc : Int) + off = (tgt : Int)) (kt : a = b → W p l e R s m args below meth c H locs cells slots Q (F0 m tgt ls rest)) (kf : a ≠ b → W p l e R s m args below meth c H locs cells slots Q (F0 m (pc + 3) ls rest)) : W p l e R s m args below meth c H locs cells slots Q (F0 m pc ls (.int (bI b) :: .int (bI a) :: rest)) := lv_icmp_eq hx hb hdg ht (fun h => kt (bI_inj h)) (fun h => kf (fun z => h (by rw [z])))
theorem m_cneB (hx : p.tables.exec = Jvm.exec) (hb : c.code = cc) {a b : Bool} {off : Int} {tgt : Nat} (hdg : decode cc pc = .ok (.if_icmp .ne off, 3)) (ht : (pc : Int) + off = (tgt : Int)) (kt : a ≠ b → W p l e R s m args below meth c H locs cells slots Q (F0 m tgt ls rest)) (kf : a = b → W p l e R s m args below meth c H locs cells slots Q (F0 m (pc + 3) ls rest)) : W p l e R s m args below meth c H locs cells slots Q (F0 m pc ls (.int (bI b) :: .int (bI a) :: rest)) := lv_icmp_ne hx hb hdg ht (fun h => kt (fun z => h (by rw [z]))) (fun h => kf (bI_inj h))
end MR
end MB
end
section
abbrev CRow (k : mC) (ad : Nat → Nat) (g : Nat → va_E) (i n z : Nat) (f : Nat → Int32) : Prop := g i = .inr (0, [.ref (ad (i + 1)), .int (nI z)]) ∧ g (i + 1) = .inl (k.2.1.1, n, .inl f)
/-- a place: at least 0, below n -/
def inN (x : Int32) (n : Nat) : Bool := decide (0 ≤ x) && decide (x < nI n)
theorem inN_nI {j n : Nat} (h : j < n) (hn : n < 2147483648) : inN (nI j) n = true := by
  simp only [inN, Bool.and_eq_true, decide_eq_true_eq]
  exact ⟨nI_pos' (by omega), nI_lt h hn⟩
theorem inN_ex {x : Int32} {n : Nat} (h : inN x n = true) (hn : n < 2147483648) : ∃ j : Nat, j < n ∧ x = nI j := by
  simp only [inN, Bool.and_eq_true, decide_eq_true_eq] at h
  obtain ⟨j, hj, rfl⟩ := nI_of (x := x) (fun q => by have := h.1; rw [Int32.le_iff_toInt_le] at this; rw [Int32.lt_iff_toInt_lt] at q; omega)
  exact ⟨j, (nI_ltI hj hn).mp h.2, rfl⟩
theorem inN_neg {x : Int32} {n : Nat} (h : x < 0) : inN x n = false := by
  simp only [inN, Bool.and_eq_false_iff, decide_eq_false_iff_not]
  left; intro q; rw [Int32.le_iff_toInt_le] at q; rw [Int32.lt_iff_toInt_lt] at h; omega
theorem inN_big {x : Int32} {n : Nat} (h : nI n ≤ x) : inN x n = false := by
  simp only [inN, Bool.and_eq_false_iff, decide_eq_false_iff_not]
  right; intro q; rw [Int32.le_iff_toInt_le] at h; rw [Int32.lt_iff_toInt_lt] at q; omega
theorem inN_yes {x : Int32} {n : Nat} (h : ¬ x < 0) (h2 : ¬ nI n ≤ x) : inN x n = true := by
  simp only [inN, Bool.and_eq_true, decide_eq_true_eq]
  rw [Int32.lt_iff_toInt_lt] at h; rw [Int32.le_iff_toInt_le] at h2
  rw [Int32.le_iff_toInt_le, Int32.lt_iff_toInt_lt]; constructor <;> omega
set_option maxHeartbeats 4000000 in
set_option maxRecDepth 100000 in
theorem c_X0_size (k : mC) (l : Launch) (ad : Nat → Nat) (N : Nat) (g : Nat → va_E) (sz : Nat) (i n z : Nat) (f : Nat → Int32)  (hi : i + 1 < N) (hn : n < 2147483648) (hz : z ≤ n) (hr0 : CRow k ad g i n z f) : mCi k l yX0_size wsX0_size { frames := 0, cells := 0, slots := 0, locals := 0 } ad N g sz [.ref (ad i)] (fun r g1 => r = nI z ∧ g1 = g) := by
  refine mOf (Qc := fun z9 => va_Qi (fun r g1 => r = nI z ∧ g1 = g) (mB k ad N) (mA ad N z9)) (cc := cX0_size) (maxL := 1) (ret := (some .int)) (by decide) rfl (Nat.le_of_ble_eq_true rfl) ?_
  intro p e s m below meth c hx hb hr hts hown hlocks hml hin hE hI ls hl
  have hl : lv_has ls 1 [(0, .ref (ad i))] := hl
  have h0 := hr0.1
  have h1 := hr0.2
  refine lv_aload_n hx hb dX0_size_0 rfl (lv_at hl 0 rfl) ?_
  refine m_get (ci := 0) (C := RX0) (T := TX0) (N' := 2) hx hb hts (by decide +kernel) hown hE hI i (by omega) h0 rfl 1 (by decide) (hts (.fieldLink RX0 13 "TapePrinter$Row" "size" "I") (by decide +kernel)) rfl dX0_size_1 ?_
  exact m_iret hx hb hr hlocks hI (⟨rfl, rfl⟩) dX0_size_4
set_option maxHeartbeats 4000000 in
set_option maxRecDepth 100000 in
theorem c_X0_room (k : mC) (l : Launch) (ad : Nat → Nat) (N : Nat) (g : Nat → va_E) (sz : Nat) (i n z : Nat) (f : Nat → Int32)  (hi : i + 1 < N) (hn : n < 2147483648) (hz : z ≤ n) (hr0 : CRow k ad g i n z f) : mCi k l yX0_room wsX0_room { frames := 0, cells := 0, slots := 0, locals := 0 } ad N g sz [.ref (ad i)] (fun r g1 => r = nI (n - z) ∧ g1 = g) := by
  refine mOf (Qc := fun z9 => va_Qi (fun r g1 => r = nI (n - z) ∧ g1 = g) (mB k ad N) (mA ad N z9)) (cc := cX0_room) (maxL := 1) (ret := (some .int)) (by decide) rfl (Nat.le_of_ble_eq_true rfl) ?_
  intro p e s m below meth c hx hb hr hts hown hlocks hml hin hE hI ls hl
  have hl : lv_has ls 1 [(0, .ref (ad i))] := hl
  have h0 := hr0.1
  have h1 := hr0.2
  refine lv_aload_n hx hb dX0_room_0 rfl (lv_at hl 0 rfl) ?_
  refine m_get (ci := 0) (C := RX0) (T := TX0) (N' := 2) hx hb hts (by decide +kernel) hown hE hI i (by omega) h0 rfl 0 (by decide) (hts (.fieldLink RX0 7 "TapePrinter$Row" "values" "[I") (by decide +kernel)) rfl dX0_room_1 ?_
  refine m_aleni hx hb hE hI (i + 1) (by omega) h1 dX0_room_4 ?_
  refine lv_aload_n hx hb dX0_room_5 rfl (lv_at hl 0 rfl) ?_
  refine m_get (ci := 0) (C := RX0) (T := TX0) (N' := 2) hx hb hts (by decide +kernel) hown hE hI i (by omega) h0 rfl 1 (by decide) (hts (.fieldLink RX0 13 "TapePrinter$Row" "size" "I") (by decide +kernel)) rfl dX0_room_6 ?_
  refine m_isubN hx hb (by omega) dX0_room_9 ?_
  exact m_iret hx hb hr hlocks hI (⟨rfl, rfl⟩) dX0_room_10
set_option maxHeartbeats 4000000 in
set_option maxRecDepth 100000 in
theorem c_X0_has (k : mC) (l : Launch) (ad : Nat → Nat) (N : Nat) (g : Nat → va_E) (sz : Nat) (i n z : Nat) (f : Nat → Int32) (x : Int32) (hi : i + 1 < N) (hn : n < 2147483648) (hz : z ≤ n) (hr0 : CRow k ad g i n z f) : mCi k l yX0_has wsX0_has { frames := 0, cells := 0, slots := 0, locals := 0 } ad N g sz [.ref (ad i), .int x] (fun r g1 => r = bI (inN x z) ∧ g1 = g) := by
  refine mOf (Qc := fun z9 => va_Qi (fun r g1 => r = bI (inN x z) ∧ g1 = g) (mB k ad N) (mA ad N z9)) (cc := cX0_has) (maxL := 2) (ret := (some .boolean)) (by decide) rfl (Nat.le_of_ble_eq_true rfl) ?_
  intro p e s m below meth c hx hb hr hts hown hlocks hml hin hE hI ls hl
  have hl : lv_has ls 2 [(0, .ref (ad i)), (1, .int x)] := hl
  have h0 := hr0.1
  have h1 := hr0.2
  refine lv_iload_n hx hb dX0_has_0 rfl (lv_at hl 1 rfl) ?_
  refine lv_if_lt (tgt := 25) hx hb dX0_has_1 (by decide) (fun c_1 => ?_) (fun c_1 => ?_)
  · refine lv_iconst (v := nI 0) hx hb dX0_has_25 (by decide) ?_
    refine m_top (y := bI false) (by decide) ?_
    exact m_zret (v := false) hx hb hr hlocks hI (⟨by rw [inN_neg c_1]; rfl, rfl⟩) dX0_has_26
  · refine lv_iload_n hx hb dX0_has_4 rfl (lv_at hl 1 rfl) ?_
    refine lv_aload_n hx hb dX0_has_5 rfl (lv_at hl 0 rfl) ?_
    refine m_get (ci := 0) (C := RX0) (T := TX0) (N' := 2) hx hb hts (by decide +kernel) hown hE hI i (by omega) h0 rfl 1 (by decide) (hts (.fieldLink RX0 13 "TapePrinter$Row" "size" "I") (by decide +kernel)) rfl dX0_has_6 ?_
    refine lv_icmp_ge (tgt := 25) hx hb dX0_has_9 (by decide) (fun c_9 => ?_) (fun c_9 => ?_)
    · refine lv_iconst (v := nI 0) hx hb dX0_has_25 (by decide) ?_
      refine m_top (y := bI false) (by decide) ?_
      exact m_zret (v := false) hx hb hr hlocks hI (⟨by rw [inN_big c_9]; rfl, rfl⟩) dX0_has_26
    · refine lv_iload_n hx hb dX0_has_12 rfl (lv_at hl 1 rfl) ?_
      refine lv_aload_n hx hb dX0_has_13 rfl (lv_at hl 0 rfl) ?_
      refine m_get (ci := 0) (C := RX0) (T := TX0) (N' := 2) hx hb hts (by decide +kernel) hown hE hI i (by omega) h0 rfl 0 (by decide) (hts (.fieldLink RX0 7 "TapePrinter$Row" "values" "[I") (by decide +kernel)) rfl dX0_has_14 ?_
      refine m_aleni hx hb hE hI (i + 1) (by omega) h1 dX0_has_17 ?_
      refine lv_icmp_ge (tgt := 25) hx hb dX0_has_18 (by decide) (fun c_18 => ?_) (fun c_18 => ?_)
      · exact absurd (show nI z ≤ x by
            have h7 := c_18; have h8 : nI z ≤ nI n := nI_le hz (by omega)
            rw [Int32.le_iff_toInt_le] at *; omega) c_9
      · refine lv_iconst (v := nI 1) hx hb dX0_has_21 (by decide) ?_
        refine lv_goto (tgt := 26) hx hb dX0_has_22 (by decide) ?_
        refine m_top (y := bI true) (by decide) ?_
        exact m_zret (v := true) hx hb hr hlocks hI (⟨by rw [inN_yes c_1 c_9]; rfl, rfl⟩) dX0_has_26
set_option maxHeartbeats 4000000 in
set_option maxRecDepth 100000 in
theorem c_X0_at (k : mC) (l : Launch) (ad : Nat → Nat) (N : Nat) (g : Nat → va_E) (sz : Nat) (i n z : Nat) (f : Nat → Int32) (j : Nat) (hj : j < z) (hi : i + 1 < N) (hn : n < 2147483648) (hz : z ≤ n) (hr0 : CRow k ad g i n z f) : mCi k l yX0_at wsX0_at { frames := 1, cells := 0, slots := 0, locals := 21 } ad N g sz [.ref (ad i), .int (nI j)] (fun r g1 => r = f j ∧ g1 = g) := by
  refine mOf (Qc := fun z9 => va_Qi (fun r g1 => r = f j ∧ g1 = g) (mB k ad N) (mA ad N z9)) (cc := cX0_at) (maxL := 2) (ret := (some .int)) (by decide) rfl (Nat.le_of_ble_eq_true rfl) ?_
  intro p e s m below meth c hx hb hr hts hown hlocks hml hin hE hI ls hl
  have hl : lv_has ls 2 [(0, .ref (ad i)), (1, .int (nI j))] := hl
  have h0 := hr0.1
  have h1 := hr0.2
  refine lv_aload_n hx hb dX0_at_0 rfl (lv_at hl 0 rfl) ?_
  refine lv_iload_n hx hb dX0_at_1 rfl (lv_at hl 1 rfl) ?_
  refine m_callVi (As := [.int (nI j)]) (rest := []) ⟨hx, hb, hml, hown, hts⟩ hE hI (c_X0_has k l ad N g H.size i n z f ((nI j)) (by omega) (by omega) (by omega) ⟨h0, h1⟩) (cwV 1 hts gX0_at_X0_has rfl rfl rfl (by decide +kernel) ⟨Nat.le_of_ble_eq_true rfl, Nat.le_of_ble_eq_true rfl⟩) (i := i) (by omega) h0 rfl rfl hl.1 rfl (Nat.le_of_ble_eq_true rfl) dX0_at_2 ⟨Nat.le_of_ble_eq_true rfl, Nat.le_of_ble_eq_true rfl⟩ (m_deti (fun H locs hI => ?_))
  refine m_top (y := bI true) (by rw [inN_nI hj (by omega)]) ?_
  refine m_zeqB (tgt := 17) hx hb dX0_at_5 (by decide) (fun c_5 => ?_) (fun c_5 => ?_)
  · exact absurd c_5 (by decide)
  · refine lv_aload_n hx hb dX0_at_8 rfl (lv_at hl 0 rfl) ?_
    refine m_get (ci := 0) (C := RX0) (T := TX0) (N' := 2) hx hb hts (by decide +kernel) hown hE hI i (by omega) h0 rfl 0 (by decide) (hts (.fieldLink RX0 7 "TapePrinter$Row" "values" "[I") (by decide +kernel)) rfl dX0_at_9 ?_
    refine lv_iload_n hx hb dX0_at_12 rfl (lv_at hl 1 rfl) ?_
    refine m_iald hx hb hE hI (i + 1) (by omega) (j := j) h1 (by omega) (by omega) dX0_at_13 ?_
    refine lv_goto (tgt := 18) hx hb dX0_at_14 (by decide) ?_
    exact m_iret hx hb hr hlocks hI (⟨rfl, rfl⟩) dX0_at_18
set_option maxHeartbeats 4000000 in
set_option maxRecDepth 100000 in
theorem c_X0_change (k : mC) (l : Launch) (ad : Nat → Nat) (N : Nat) (g : Nat → va_E) (sz : Nat) (i n z : Nat) (f : Nat → Int32) (j : Nat) (v : Int32) (hj : j < z) (hi : i + 1 < N) (hn : n < 2147483648) (hz : z ≤ n) (hr0 : CRow k ad g i n z f) : mCv k l yX0_change wsX0_change { frames := 1, cells := 0, slots := 0, locals := 21 } ad N g sz [.ref (ad i), .int (nI j), .int v] (fun g1 => g1 = va_up g (i + 1) (.inl (k.2.1.1, n, .inl (upd f j v)))) := by
  refine mOf (Qc := fun z9 => va_Qv (fun g1 => g1 = va_up g (i + 1) (.inl (k.2.1.1, n, .inl (upd f j v)))) (mB k ad N) (mA ad N z9)) (cc := cX0_change) (maxL := 3) (ret := none) (by decide) rfl (Nat.le_of_ble_eq_true rfl) ?_
  intro p e s m below meth c hx hb hr hts hown hlocks hml hin hE hI ls hl
  have hl : lv_has ls 3 [(0, .ref (ad i)), (1, .int (nI j)), (2, .int v)] := hl
  have h0 := hr0.1
  have h1 := hr0.2
  refine lv_aload_n hx hb dX0_change_0 rfl (lv_at hl 0 rfl) ?_
  refine lv_iload_n hx hb dX0_change_1 rfl (lv_at hl 1 rfl) ?_
  refine m_callVi (As := [.int (nI j)]) (rest := []) ⟨hx, hb, hml, hown, hts⟩ hE hI (c_X0_has k l ad N g H.size i n z f ((nI j)) (by omega) (by omega) (by omega) ⟨h0, h1⟩) (cwV 1 hts gX0_change_X0_has rfl rfl rfl (by decide +kernel) ⟨Nat.le_of_ble_eq_true rfl, Nat.le_of_ble_eq_true rfl⟩) (i := i) (by omega) h0 rfl rfl hl.1 rfl (Nat.le_of_ble_eq_true rfl) dX0_change_2 ⟨Nat.le_of_ble_eq_true rfl, Nat.le_of_ble_eq_true rfl⟩ (m_deti (fun H locs hI => ?_))
  refine m_top (y := bI true) (by rw [inN_nI hj (by omega)]) ?_
  refine m_zeqB (tgt := 15) hx hb dX0_change_5 (by decide) (fun c_5 => ?_) (fun c_5 => ?_)
  · exact absurd c_5 (by decide)
  · refine lv_aload_n hx hb dX0_change_8 rfl (lv_at hl 0 rfl) ?_
    refine m_get (ci := 0) (C := RX0) (T := TX0) (N' := 2) hx hb hts (by decide +kernel) hown hE hI i (by omega) h0 rfl 0 (by decide) (hts (.fieldLink RX0 7 "TapePrinter$Row" "values" "[I") (by decide +kernel)) rfl dX0_change_9 ?_
    refine lv_iload_n hx hb dX0_change_12 rfl (lv_at hl 1 rfl) ?_
    refine lv_iload_n hx hb dX0_change_13 rfl (lv_at hl 2 rfl) ?_
    refine m_iast hx hb hE hI (i + 1) (by omega) (j := j) h1 (by omega) (by omega) dX0_change_14 (fun H locs hI => ?_)
    obtain ⟨g1, hg1⟩ : ∃ z, z = va_up g (i + 1) (.inl (k.2.1.1, n, .inl (upd f j v))) := ⟨_, rfl⟩
    rw [← hg1] at hI
    have m_1 : g1 i = .inr (0, [.ref (ad (i + 1)), .int (nI z)]) := by rw [hg1, va_up_ne _ _ (by omega)]; exact h0
    have m_2 : g1 (i + 1) = .inl (k.2.1.1, n, .inl (upd f j v)) := by rw [hg1, va_up_self]
    exact m_vret hx hb hr hlocks hI (hg1) dX0_change_15
set_option maxHeartbeats 4000000 in
set_option maxRecDepth 100000 in
theorem c_X0_add_in (k : mC) (l : Launch) (ad : Nat → Nat) (N : Nat) (g : Nat → va_E) (sz : Nat) (i n z : Nat) (f : Nat → Int32) (v : Int32) (hlt : z < n) (hi : i + 1 < N) (hn : n < 2147483648) (hz : z ≤ n) (hr0 : CRow k ad g i n z f) : mCi k l yX0_add wsX0_add { frames := 0, cells := 0, slots := 0, locals := 0 } ad N g sz [.ref (ad i), .int v] (fun r g1 => r = bI true ∧ g1 = va_up (va_up g (i + 1) (.inl (k.2.1.1, n, .inl (upd f z v)))) i (.inr (0, [.ref (ad (i + 1)), .int (nI (z + 1))]))) := by
  refine mOf (Qc := fun z9 => va_Qi (fun r g1 => r = bI true ∧ g1 = va_up (va_up g (i + 1) (.inl (k.2.1.1, n, .inl (upd f z v)))) i (.inr (0, [.ref (ad (i + 1)), .int (nI (z + 1))]))) (mB k ad N) (mA ad N z9)) (cc := cX0_add) (maxL := 2) (ret := (some .boolean)) (by decide) rfl (Nat.le_of_ble_eq_true rfl) ?_
  intro p e s m below meth c hx hb hr hts hown hlocks hml hin hE hI ls hl
  have hl : lv_has ls 2 [(0, .ref (ad i)), (1, .int v)] := hl
  have h0 := hr0.1
  have h1 := hr0.2
  refine lv_aload_n hx hb dX0_add_0 rfl (lv_at hl 0 rfl) ?_
  refine m_get (ci := 0) (C := RX0) (T := TX0) (N' := 2) hx hb hts (by decide +kernel) hown hE hI i (by omega) h0 rfl 1 (by decide) (hts (.fieldLink RX0 13 "TapePrinter$Row" "size" "I") (by decide +kernel)) rfl dX0_add_1 ?_
  refine m_zltN (tgt := 19) hx hb (by omega) dX0_add_4 (by decide) ?_
  refine lv_aload_n hx hb dX0_add_7 rfl (lv_at hl 0 rfl) ?_
  refine m_get (ci := 0) (C := RX0) (T := TX0) (N' := 2) hx hb hts (by decide +kernel) hown hE hI i (by omega) h0 rfl 1 (by decide) (hts (.fieldLink RX0 13 "TapePrinter$Row" "size" "I") (by decide +kernel)) rfl dX0_add_8 ?_
  refine lv_aload_n hx hb dX0_add_11 rfl (lv_at hl 0 rfl) ?_
  refine m_get (ci := 0) (C := RX0) (T := TX0) (N' := 2) hx hb hts (by decide +kernel) hown hE hI i (by omega) h0 rfl 0 (by decide) (hts (.fieldLink RX0 7 "TapePrinter$Row" "values" "[I") (by decide +kernel)) rfl dX0_add_12 ?_
  refine m_aleni hx hb hE hI (i + 1) (by omega) h1 dX0_add_15 ?_
  refine m_cltN (tgt := 21) hx hb (by omega) (by omega) dX0_add_16 (by decide) (fun c_16 => ?_) (fun c_16 => ?_)
  · refine lv_aload_n hx hb dX0_add_21 rfl (lv_at hl 0 rfl) ?_
    refine m_get (ci := 0) (C := RX0) (T := TX0) (N' := 2) hx hb hts (by decide +kernel) hown hE hI i (by omega) h0 rfl 0 (by decide) (hts (.fieldLink RX0 7 "TapePrinter$Row" "values" "[I") (by decide +kernel)) rfl dX0_add_22 ?_
    refine lv_aload_n hx hb dX0_add_25 rfl (lv_at hl 0 rfl) ?_
    refine m_get (ci := 0) (C := RX0) (T := TX0) (N' := 2) hx hb hts (by decide +kernel) hown hE hI i (by omega) h0 rfl 1 (by decide) (hts (.fieldLink RX0 13 "TapePrinter$Row" "size" "I") (by decide +kernel)) rfl dX0_add_26 ?_
    refine lv_iload_n hx hb dX0_add_29 rfl (lv_at hl 1 rfl) ?_
    refine m_iast hx hb hE hI (i + 1) (by omega) (j := z) h1 (by omega) (by omega) dX0_add_30 (fun H locs hI => ?_)
    obtain ⟨g1, hg1⟩ : ∃ z, z = va_up g (i + 1) (.inl (k.2.1.1, n, .inl (upd f z v))) := ⟨_, rfl⟩
    rw [← hg1] at hI
    have m_1 : g1 i = .inr (0, [.ref (ad (i + 1)), .int (nI z)]) := by rw [hg1, va_up_ne _ _ (by omega)]; exact h0
    have m_2 : g1 (i + 1) = .inl (k.2.1.1, n, .inl (upd f z v)) := by rw [hg1, va_up_self]
    refine lv_aload_n hx hb dX0_add_31 rfl (lv_at hl 0 rfl) ?_
    refine lv_dup hx hb dX0_add_32 rfl ?_
    refine m_get (ci := 0) (C := RX0) (T := TX0) (N' := 2) hx hb hts (by decide +kernel) hown hE hI i (by omega) m_1 rfl 1 (by decide) (hts (.fieldLink RX0 13 "TapePrinter$Row" "size" "I") (by decide +kernel)) rfl dX0_add_33 ?_
    refine lv_iconst (v := nI 1) hx hb dX0_add_36 (by decide) ?_
    refine m_iaddN hx hb dX0_add_37 ?_
    refine m_put (ci := 0) (C := RX0) (T := TX0) (N' := 2) (ty := .int) hx hb hts (by decide +kernel) tyX0 tyX0_ok nmX0 hown hE hI i (by omega) m_1 rfl 1 (by decide) (hts (.fieldLink RX0 13 "TapePrinter$Row" "size" "I") (by decide +kernel)) rfl (by decide +kernel) rfl rfl (Nat.le_of_ble_eq_true rfl) dX0_add_38 (fun H locs hI => ?_)
    obtain ⟨g2, hg2⟩ : ∃ z, z = va_up g1 i (.inr (0, [.ref (ad (i + 1)), .int (nI (z + 1))])) := ⟨_, rfl⟩
    rw [← hg2] at hI
    have m_3 : g2 i = .inr (0, [.ref (ad (i + 1)), .int (nI (z + 1))]) := by rw [hg2, va_up_self]
    have m_4 : g2 (i + 1) = .inl (k.2.1.1, n, .inl (upd f z v)) := by rw [hg2, va_up_ne _ _ (by omega)]; exact m_2
    refine lv_iconst (v := nI 1) hx hb dX0_add_41 (by decide) ?_
    refine m_top (y := bI true) (by decide) ?_
    exact m_zret (v := true) hx hb hr hlocks hI (⟨rfl, by rw [hg2, hg1]⟩) dX0_add_42
  · exact absurd c_16 (by omega)
set_option maxHeartbeats 4000000 in
set_option maxRecDepth 100000 in
theorem c_X0_add_out (k : mC) (l : Launch) (ad : Nat → Nat) (N : Nat) (g : Nat → va_E) (sz : Nat) (i n z : Nat) (f : Nat → Int32) (v : Int32) (hge : z = n) (hi : i + 1 < N) (hn : n < 2147483648) (hz : z ≤ n) (hr0 : CRow k ad g i n z f) : mCi k l yX0_add wsX0_add { frames := 0, cells := 0, slots := 0, locals := 0 } ad N g sz [.ref (ad i), .int v] (fun r g1 => r = bI false ∧ g1 = g) := by
  refine mOf (Qc := fun z9 => va_Qi (fun r g1 => r = bI false ∧ g1 = g) (mB k ad N) (mA ad N z9)) (cc := cX0_add) (maxL := 2) (ret := (some .boolean)) (by decide) rfl (Nat.le_of_ble_eq_true rfl) ?_
  intro p e s m below meth c hx hb hr hts hown hlocks hml hin hE hI ls hl
  have hl : lv_has ls 2 [(0, .ref (ad i)), (1, .int v)] := hl
  have h0 := hr0.1
  have h1 := hr0.2
  refine lv_aload_n hx hb dX0_add_0 rfl (lv_at hl 0 rfl) ?_
  refine m_get (ci := 0) (C := RX0) (T := TX0) (N' := 2) hx hb hts (by decide +kernel) hown hE hI i (by omega) h0 rfl 1 (by decide) (hts (.fieldLink RX0 13 "TapePrinter$Row" "size" "I") (by decide +kernel)) rfl dX0_add_1 ?_
  refine m_zltN (tgt := 19) hx hb (by omega) dX0_add_4 (by decide) ?_
  refine lv_aload_n hx hb dX0_add_7 rfl (lv_at hl 0 rfl) ?_
  refine m_get (ci := 0) (C := RX0) (T := TX0) (N' := 2) hx hb hts (by decide +kernel) hown hE hI i (by omega) h0 rfl 1 (by decide) (hts (.fieldLink RX0 13 "TapePrinter$Row" "size" "I") (by decide +kernel)) rfl dX0_add_8 ?_
  refine lv_aload_n hx hb dX0_add_11 rfl (lv_at hl 0 rfl) ?_
  refine m_get (ci := 0) (C := RX0) (T := TX0) (N' := 2) hx hb hts (by decide +kernel) hown hE hI i (by omega) h0 rfl 0 (by decide) (hts (.fieldLink RX0 7 "TapePrinter$Row" "values" "[I") (by decide +kernel)) rfl dX0_add_12 ?_
  refine m_aleni hx hb hE hI (i + 1) (by omega) h1 dX0_add_15 ?_
  refine m_cltN (tgt := 21) hx hb (by omega) (by omega) dX0_add_16 (by decide) (fun c_16 => ?_) (fun c_16 => ?_)
  · exact absurd c_16 (by omega)
  · refine lv_iconst (v := nI 0) hx hb dX0_add_19 (by decide) ?_
    refine m_top (y := bI false) (by decide) ?_
    exact m_zret (v := false) hx hb hr hlocks hI (⟨rfl, rfl⟩) dX0_add_20
set_option maxHeartbeats 4000000 in
set_option maxRecDepth 100000 in
theorem c_X0_clear (k : mC) (l : Launch) (ad : Nat → Nat) (N : Nat) (g : Nat → va_E) (sz : Nat) (i n z : Nat) (f : Nat → Int32)  (hi : i + 1 < N) (hn : n < 2147483648) (hz : z ≤ n) (hr0 : CRow k ad g i n z f) : mCv k l yX0_clear wsX0_clear { frames := 0, cells := 0, slots := 0, locals := 0 } ad N g sz [.ref (ad i)] (fun g1 => g1 = va_up g i (.inr (0, [.ref (ad (i + 1)), .int (nI 0)]))) := by
  refine mOf (Qc := fun z9 => va_Qv (fun g1 => g1 = va_up g i (.inr (0, [.ref (ad (i + 1)), .int (nI 0)]))) (mB k ad N) (mA ad N z9)) (cc := cX0_clear) (maxL := 1) (ret := none) (by decide) rfl (Nat.le_of_ble_eq_true rfl) ?_
  intro p e s m below meth c hx hb hr hts hown hlocks hml hin hE hI ls hl
  have hl : lv_has ls 1 [(0, .ref (ad i))] := hl
  have h0 := hr0.1
  have h1 := hr0.2
  refine lv_aload_n hx hb dX0_clear_0 rfl (lv_at hl 0 rfl) ?_
  refine lv_iconst (v := nI 0) hx hb dX0_clear_1 (by decide) ?_
  refine m_put (ci := 0) (C := RX0) (T := TX0) (N' := 2) (ty := .int) hx hb hts (by decide +kernel) tyX0 tyX0_ok nmX0 hown hE hI i (by omega) h0 rfl 1 (by decide) (hts (.fieldLink RX0 13 "TapePrinter$Row" "size" "I") (by decide +kernel)) rfl (by decide +kernel) rfl rfl (Nat.le_of_ble_eq_true rfl) dX0_clear_2 (fun H locs hI => ?_)
  obtain ⟨g1, hg1⟩ : ∃ z, z = va_up g i (.inr (0, [.ref (ad (i + 1)), .int (nI 0)])) := ⟨_, rfl⟩
  rw [← hg1] at hI
  have m_1 : g1 i = .inr (0, [.ref (ad (i + 1)), .int (nI 0)]) := by rw [hg1, va_up_self]
  have m_2 : g1 (i + 1) = .inl (k.2.1.1, n, .inl f) := by rw [hg1, va_up_ne _ _ (by omega)]; exact h1
  exact m_vret hx hb hr hlocks hI (hg1) dX0_clear_5
end
