/-! The base layer: a memory by roles. ad: the address of a role; g: what the cell of a role holds; N roles in all. -/
section MB
abbrev mC : Type := va_G × (Nat × Nat × Nat × Nat) × (Nat × Nat)
def mTys (k : mC) : List (ClassId × FieldType) := [(k.2.1.1, .int), (k.2.1.2.1, .object "TapePrinter$Row"), (k.2.1.2.2.1, .boolean), (k.2.1.2.2.2, .array .int)]
def cdT : List Nat := [0, 1, 3, 5, 6, 7, 9, 10, 11, 12, 13, 14, 15, 16, 17, 18, 19, 20, 21, 22, 23, 24, 25, 26, 28, 29, 30, 1, 3, 5, 6, 7, 9, 10, 11, 12, 13, 14, 15, 16, 17, 18, 19, 20, 21, 22, 23, 24, 25, 26, 28, 29, 30, 4, 2]
/-- the code of a character -/
def cd (x : Nat) : Nat := cdT.getD x 0
def chT : List Nat := [0, 1, 54, 2, 53, 3, 4, 5, 0, 6, 7, 8, 9, 10, 11, 12, 13, 14, 15, 16, 17, 18, 19, 20, 21, 22, 23, 0, 24, 25, 26, 0]
/-- the character of a code, by letters -/
def chL (c : Nat) : Nat := chT.getD c 0
def bI (b : Bool) : Int32 := if b then 1 else 0
theorem bI_nar (b : Bool) : narrow .boolean (.int (bI b)) = .int (bI b) := by cases b <;> rfl
theorem bI_fit (b : Bool) : fits .boolean (.int (bI b)) = true := by cases b <;> rfl
theorem bI_0 {b : Bool} (h : bI b = 0) : b = false := by cases b <;> first | rfl | exact absurd h (by decide)
theorem bI_1 {b : Bool} (h : ¬ bI b = 0) : b = true := by cases b <;> first | rfl | exact absurd rfl h
theorem bI_inj {a b : Bool} (h : bI a = bI b) : a = b := by cases a <;> cases b <;> first | rfl | exact absurd h (by decide)
def mST : List (Nat × String) := [(38, "no such character"), (50, "no such code"), (65, "no such place of the table"), (69, "too early or too late"), (72, "no such units"), (81, "no such play"), (101, "the tape is full"), (120, "the tape has no room"), (125, "no such place of the tape"), (133, "too few or too many"), (149, "no such line or place"), (151, "no such line"), (153, "nothing such is counted")]
def mNd : List MethodName := [Bundle.initS "java/lang/RuntimeException", Bundle.initS "java/lang/Exception", Bundle.initS Bundle.tN]
def mNx : List String := ["java/lang/IndexOutOfBoundsException", "java/lang/IllegalArgumentException", "java/lang/IllegalStateException"]
/-- words of the tables that no method's list holds: what is declared, what may be cast, the arrays of int arrays -/
def mNw (U : State) : Prop := (∀ x ∈ mNd, va_Nw (.declares x) U) ∧ (∀ C ∈ mNx, va_Nw (.castable C C) U) ∧ (Cond.arrayOver (.array .int)).before #[] U = true ∧ va_Nw (.methodLinkNest RX4 7 yL_characters RL) U ∧ va_Nw (.methodLinkNest RL 89 yX4_init RL) U
theorem mNw.warm {s U : State} (hW : s.WarmedH U.vm) (h : mNw s) : mNw U :=
  ⟨fun x hx => va_Nw.warmD hW (h.1 x hx), fun C hC => va_Nw.warmC hW (h.2.1 C hC), over_moved hW.alike h.2.2.1, va_Nw.warmM hW h.2.2.2.1, va_Nw.warmM hW h.2.2.2.2⟩
def mK (k : mC) (A : Nat → Prop) (U : State) (H : Heap) : Prop :=
  va_K k.1 vwCl (mTys k) U ∧ (va_Z RX3 "CODES" "[I" (.ref k.2.2.1) A U H ∧ va_T .int k.2.2.1 55 (fun j => .int (nI (cd j))) A U H) ∧
  (va_Z RX3 "CHARACTERS" "[I" (.ref k.2.2.2) A U H ∧ va_T .int k.2.2.2 32 (fun j => .int (nI (chL j))) A U H) ∧
  (vx_Zq Bundle.tN "UNASSIGNED_STACK" Bundle.steD A U H ∧ vx_Zq Bundle.tN "SUPPRESSED_SENTINEL" Bundle.listD A U H) ∧ (∀ q ∈ mST, ∃ a : Nat, vk_R RX3 q.1 q.2 a U) ∧ mNw U
theorem mK.call {k : mC} {A A' : Nat → Prop} {s U : State} {H : Heap} {locs : List Loc} (h : mK k A s s.heap) (hS : va_S A s.heap H locs) (hA : ∀ q, A' q → A q) (hU : U.heap = H) (hW : s.WarmedH U.vm) : mK k A' U U.heap := by
  subst hU
  obtain ⟨h1, ⟨h2, h3⟩, ⟨h4, h5⟩, ⟨h6, h7⟩, h8, h9⟩ := h
  refine ⟨va_K.moved hW.alike h1, ⟨?_, ?_⟩, ⟨?_, ?_⟩, ⟨?_, ?_⟩, fun q hq => ?_, mNw.warm hW h9⟩
  · exact va_Z.narrow (va_Z.moved hW.alike (va_Z.kept h2 hS.2.1)) hA
  · exact va_T.narrow (va_T.moved hW.alike (va_T.kept h3 hS.2.1)) hA
  · exact va_Z.narrow (va_Z.moved hW.alike (va_Z.kept h4 hS.2.1)) hA
  · exact va_T.narrow (va_T.moved hW.alike (va_T.kept h5 hS.2.1)) hA
  · exact vx_Zq.narrow (vx_Zq.moved hW.alike (vx_Zq.kept h6 hS.2.1)) hA
  · exact vx_Zq.narrow (vx_Zq.moved hW.alike (vx_Zq.kept h7 hS.2.1)) hA
  · obtain ⟨a, ha⟩ := h8 q hq
    exact ⟨a, vk_R.warm hW ha⟩
theorem mK.blind {k : mC} {A : Nat → Prop} {U : State} {gg : JFrame} {mk : MethodId} {a : Array Value} (h : mK k A U U.heap) : mK k A (U.calling gg mk a) (U.calling gg mk a).heap :=
  mK.call (U := U.calling gg mk a) h va_S.rf (fun _ h => h) rfl (State.WarmedH.refl U)
/-- the world: the cell of each role -/
def mw (ad : Nat → Nat) (N : Nat) (g : Nat → va_E) : va_W := (List.range N).map (fun i => (ad i, g i))
theorem mw_at {ad : Nat → Nat} {N : Nat} {g : Nat → va_E} {i : Nat} (hi : i < N) : (mw ad N g)[i]? = some (ad i, g i) := by
  simp [mw, hi]
theorem mw_at' {ad : Nat → Nat} {N : Nat} {g : Nat → va_E} {i : Nat} {e : va_E} (hi : i < N) (he : g i = e) : (mw ad N g)[i]? = some (ad i, e) := by
  rw [mw_at hi, he]
theorem mw_lt {ad : Nat → Nat} {N : Nat} {g : Nat → va_E} {i : Nat} {q : Nat × va_E} (h : (mw ad N g)[i]? = some q) : i < N ∧ q = (ad i, g i) := by
  have h1 := (List.getElem?_eq_some_iff.mp h).1
  have h2 : i < N := by simpa [mw] using h1
  refine ⟨h2, ?_⟩
  rw [mw_at h2] at h
  exact (Option.some.inj h).symm
theorem mw_set {ad : Nat → Nat} {N : Nat} {g : Nat → va_E} {i : Nat} {e : va_E} (hi : i < N) : (mw ad N g).set i (ad i, e) = mw ad N (va_up g i e) := by
  apply List.ext_getElem?
  intro j
  by_cases hj : j = i
  · subst hj
    rw [mw_at hi, va_up_self, List.getElem?_set_self (by simpa [mw] using hi)]
  · rw [List.getElem?_set_ne (Ne.symm hj)]
    by_cases hN : j < N
    · rw [mw_at hN, mw_at hN, va_up_ne _ _ hj]
    · rw [List.getElem?_eq_none (by simp [mw]; omega), List.getElem?_eq_none (by simp [mw]; omega)]
theorem mw_push {ad : Nat → Nat} {N : Nat} {g : Nat → va_E} {q : Nat} {e : va_E} : mw ad N g ++ [(q, e)] = mw (va_up ad N q) (N + 1) (va_up g N e) := by
  simp only [mw, List.range_succ, List.map_append, List.map_cons, List.map_nil, va_up_self]
  congr 1
  apply List.map_congr_left
  intro j hj
  have h1 : j < N := List.mem_range.mp hj
  have h2 : j ≠ N := by omega
  rw [va_up_ne _ _ h2, va_up_ne _ _ h2]
def mJ (ad : Nat → Nat) (N : Nat) : Prop := ∀ i j, i < N → j < N → ad i = ad j → i = j
theorem mw_D {ad : Nat → Nat} {N : Nat} {g : Nat → va_E} {A : Nat → Prop} (hJ : mJ ad N) (hA : ∀ i, i < N → A (ad i)) : va_D A (mw ad N g) := by
  refine ⟨fun i j p q hi hj h => ?_, fun i q hi => ?_⟩
  · obtain ⟨h1, rfl⟩ := mw_lt hi
    obtain ⟨h2, rfl⟩ := mw_lt hj
    exact hJ i j h1 h2 h
  · obtain ⟨h1, rfl⟩ := mw_lt hi
    exact hA i h1
theorem mw_J {ad : Nat → Nat} {N : Nat} {g : Nat → va_E} {A : Nat → Prop} (h : va_D A (mw ad N g)) : mJ ad N ∧ ∀ i, i < N → A (ad i) :=
  ⟨fun i j hi hj e => h.1 i j _ _ (mw_at hi) (mw_at hj) e, fun i hi => h.2 i _ (mw_at hi)⟩
def mA (ad : Nat → Nat) (N sz : Nat) : Nat → Prop := fun q => (∃ i, i < N ∧ ad i = q) ∨ sz ≤ q
/-- what stays all through a method: the tables, the roles apart -/
def mE (k : mC) (ad : Nat → Nat) (N : Nat) (A : Nat → Prop) (s : State) : Prop := mK k A s s.heap ∧ mJ ad N ∧ (∀ i, i < N → A (ad i)) ∧ (∀ q, s.heap.size ≤ q → A q)
/-- the world now -/
def mI (k : mC) (ad : Nat → Nat) (N : Nat) (g : Nat → va_E) (A : Nat → Prop) (s : State) (H : Heap) (locs : List Loc) : Prop := va_P k.1 vwCl (mw ad N g) H ∧ va_S A s.heap H locs
theorem mA_sub {k : mC} {ad : Nat → Nat} {N : Nat} {g : Nat → va_E} {A : Nat → Prop} {s : State} {H : Heap} {locs : List Loc} (hE : mE k ad N A s) (hI : mI k ad N g A s H locs) : ∀ q, mA ad N H.size q → A q := by
  intro q h
  rcases h with ⟨i, hi, rfl⟩ | h
  · exact hE.2.2.1 i hi
  · exact hE.2.2.2 q (Nat.le_trans hI.2.1 h)
def mPc (k : mC) (ad : Nat → Nat) (N : Nat) (g : Nat → va_E) (sz : Nat) (av : List Value) : Array Value → State → Prop := va_Pc av (fun U => U.heap.size = sz ∧ mK k (mA ad N sz) U U.heap ∧ va_P k.1 vwCl (mw ad N g) U.heap ∧ mJ ad N)
theorem mPc.blind {k : mC} {ad : Nat → Nat} {N : Nat} {g : Nat → va_E} {sz : Nat} {av : List Value} : FrameBlind (mPc k ad N g sz av) := fun a U gg mk h => ⟨h.1, h.2.1, mK.blind h.2.2.1, h.2.2.2.1, h.2.2.2.2⟩
def mB (k : mC) (ad : Nat → Nat) (N : Nat) (g : Nat → va_E) (t : State) : Prop := va_P k.1 vwCl (mw ad N g) t.heap
def mCi (k : mC) (l : Launch) (y : MethodName) (ws : List Cond) (rm : Room) (ad : Nat → Nat) (N : Nat) (g : Nat → va_E) (sz : Nat) (av : List Value) (post : Int32 → (Nat → va_E) → Prop) : Prop :=
  Met l y ws rm (mPc k ad N g sz av) (va_Qi post (mB k ad N) (mA ad N sz)) 0 0 (mA ad N sz)
def mCl (k : mC) (l : Launch) (y : MethodName) (ws : List Cond) (rm : Room) (ad : Nat → Nat) (N : Nat) (g : Nat → va_E) (sz : Nat) (av : List Value) (post : Int64 → (Nat → va_E) → Prop) : Prop :=
  Met l y ws rm (mPc k ad N g sz av) (va_Ql post (mB k ad N) (mA ad N sz)) 0 0 (mA ad N sz)
def mCv (k : mC) (l : Launch) (y : MethodName) (ws : List Cond) (rm : Room) (ad : Nat → Nat) (N : Nat) (g : Nat → va_E) (sz : Nat) (av : List Value) (post : (Nat → va_E) → Prop) : Prop :=
  Met l y ws rm (mPc k ad N g sz av) (va_Qv post (mB k ad N) (mA ad N sz)) 0 0 (mA ad N sz)
def mCq (k : mC) (l : Launch) (y : MethodName) (ws : List Cond) (rm : Room) (ad : Nat → Nat) (N : Nat) (g : Nat → va_E) (sz : Nat) (av : List Value) (post : Option Nat → (Nat → va_E) → Prop) : Prop :=
  Met l y ws rm (mPc k ad N g sz av) (va_Qq post (mB k ad N) (mA ad N sz)) 0 0 (mA ad N sz)
/-- a contract's body -/
theorem mOf {k : mC} {l : Launch} {y : MethodName} {ws ws' : List Cond} {rm : Room} {ad : Nat → Nat} {N : Nat} {g : Nat → va_E} {sz : Nat} {av : List Value} {cc : ByteArray} {maxL : Nat} {ret : Option FieldType} {Qc : Nat → Array Value → State → Outcome → State → Prop}
    (hy : plainName y.cls = true) (hw : ws = Cond.code y cc maxL ret :: ws') (hav : (lg_sl av).length ≤ maxL)
    (body : ∀ (p : Program) (e : Env) (s : State) (m : MethodId) (below : List Frame) (meth : Method) (c : Code), p.tables.exec = Jvm.exec → c.code = cc → meth.sig.returnType = ret → (∀ w ∈ ws, w.before av.toArray s = true) → s.vm.findClass y.cls = some m.cls → meth.locks = false → c.maxLocals = maxL → meth.name = y.name →
      mE k ad N (mA ad N s.heap.size) s → mI k ad N g (mA ad N s.heap.size) s s.heap [] → ∀ ls : Array Slot, lv_has ls maxL (lv_args 0 av) →
      W p l e rm s m av.toArray below meth c s.heap [] 0 0 (MQ below (Qc s.heap.size) av.toArray s 0 0 (mA ad N s.heap.size)) (F0 m 0 ls [])) :
    Met l y ws rm (mPc k ad N g sz av) (Qc sz) 0 0 (mA ad N sz) := by
  refine Met.ofW (cc := cc) (maxL := maxL) (ret := ret) hy hw ?_
  intro p e s m args below meth c s₁ B hml hv
  obtain ⟨rfl, hsz, hK, hP, hJ⟩ := hv
  subst hsz
  rw [lg_entry_eq]
  exact body p e s m below meth c B.exec B.bytes B.returns (atoms_spec (ws := ws) B.pre) (findClass_of_methodNamed B.named) B.notSynchronized hml (name_of_methodNamed B.named B.method).1 ⟨hK, hJ, fun i hi => Or.inl ⟨i, hi, rfl⟩, fun q hq => Or.inr hq⟩ ⟨hP, va_S.rf⟩ _ (lv_entry av hav)
section MR
variable {p : Program} {l : Launch} {e : Env} {R : Room} {s : State} {m : MethodId} {args : Array Value} {below : List Frame} {meth : Method} {c : Code} {H : Heap} {locs : List Loc} {cells slots : Nat} {Q : State → Prop}
variable {cc : ByteArray} {pc : Nat} {ls : Array Slot} {rest : List Value} {k : mC} {ad : Nat → Nat} {N : Nat} {g : Nat → va_E} {A : Nat → Prop}
theorem m_top {x y : Int32} (h : x = y) (kk : W p l e R s m args below meth c H locs cells slots Q (F0 m pc ls (.int y :: rest))) : W p l e R s m args below meth c H locs cells slots Q (F0 m pc ls (.int x :: rest)) := by rw [h]; exact kk
theorem m_topl {x y : Int64} (h : x = y) (kk : W p l e R s m args below meth c H locs cells slots Q (F0 m pc ls (.long y :: rest))) : W p l e R s m args below meth c H locs cells slots Q (F0 m pc ls (.long x :: rest)) := by rw [h]; exact kk
theorem m_get (hx : p.tables.exec = Jvm.exec) (hb : c.code = cc) {own C : String} {T : u_T} {N' ci index : Nat} {Ts : List Cond} (hts : ∀ w ∈ Ts, w.before args s = true) (hin : ∀ w ∈ u_ws C T N', w ∈ Ts) (hown : s.vm.findClass own = some m.cls)
    (hE : mE k ad N A s) (hI : mI k ad N g A s H locs) (i : Nat) (hi : i < N) {fs : List Value} (he : g i = .inr (ci, fs)) (hc : vwCl[ci]? = some (C, T, N')) (f : Nat) (hf : f < N') (hlink : (Cond.fieldLink own index (T f).1 (T f).2.1 (T f).2.2.1).before args s = true) {v : Value} (hv : fs[f]? = some v)
    (hdg : decode cc pc = .ok (.getfield index, 3)) (kk : W p l e R s m args below meth c H locs cells slots Q (F0 m (pc + 3) ls (v :: rest))) : W p l e R s m args below meth c H locs cells slots Q (F0 m pc ls (.ref (ad i) :: rest)) :=
  va_get (D := k.1) (cl := vwCl) (ref := (T f).1) hx hb hts hin hown hE.1.1 hI.1 i (mw_at' hi he) hc f hf hlink (fun _ h => h) hv hdg kk
theorem m_put (hx : p.tables.exec = Jvm.exec) (hb : c.code = cc) {own C : String} {T : u_T} {N' ci index : Nat} {Ts : List Cond} (hts : ∀ w ∈ Ts, w.before args s = true) (hin : ∀ w ∈ u_ws C T N', w ∈ Ts) (ty0 : Nat → FieldType) (hty : ∀ k, k < N' → parseFieldDescriptor (T k).2.2.1 = some (ty0 k)) (hnm : ∀ a, a < N' → ∀ b, b < N' → a ≠ b → (T a).2.1 ≠ (T b).2.1) (hown : s.vm.findClass own = some m.cls)
    (hE : mE k ad N A s) (hI : mI k ad N g A s H locs) (i : Nat) (hi : i < N) {fs : List Value} (he : g i = .inr (ci, fs)) (hc : vwCl[ci]? = some (C, T, N')) (f : Nat) (hf : f < N') (hlink : (Cond.fieldLink own index (T f).1 (T f).2.1 (T f).2.2.1).before args s = true) (hfin : (T f).2.2.2 = false) {ty : FieldType} {v : Value} (hd : parseFieldDescriptor (T f).2.2.1 = some ty) (hn : narrow ty v = v) (hfit : fits ty v = true) (hl : f < fs.length)
    (hdg : decode cc pc = .ok (.putfield index, 3)) (kk : ∀ (H : Heap) (locs : List Loc), mI k ad N (va_up g i (.inr (ci, fs.set f v))) A s H locs → W p l e R s m args below meth c H locs cells slots Q (F0 m (pc + 3) ls rest)) : W p l e R s m args below meth c H locs cells slots Q (F0 m pc ls (v :: .ref (ad i) :: rest)) :=
  va_put (D := k.1) (cl := vwCl) (ref := (T f).1) hx hb hts hin ty0 hty hnm hown hE.1.1 hI.1 (mw_D hE.2.1 hE.2.2.1) hI.2 i (mw_at' hi he) hc f hf hlink (fun _ h => h) hfin hd hn hfit hl hdg (fun H1 locs1 hP _ hS => kk H1 locs1 ⟨by rw [mw_set hi] at hP; exact hP, hS⟩)
theorem m_putF (hx : p.tables.exec = Jvm.exec) (hb : c.code = cc) {own C : String} {T : u_T} {N' ci index : Nat} {Ts : List Cond} (hts : ∀ w ∈ Ts, w.before args s = true) (hin : ∀ w ∈ u_ws C T N', w ∈ Ts) (ty0 : Nat → FieldType) (hty : ∀ k, k < N' → parseFieldDescriptor (T k).2.2.1 = some (ty0 k)) (hnm : ∀ a, a < N' → ∀ b, b < N' → a ≠ b → (T a).2.1 ≠ (T b).2.1) (hown : s.vm.findClass own = some m.cls)
    (hE : mE k ad N A s) (hI : mI k ad N g A s H locs) (i : Nat) (hi : i < N) {fs : List Value} (he : g i = .inr (ci, fs)) (hc : vwCl[ci]? = some (C, T, N')) (f : Nat) (hf : f < N') (hlink : (Cond.fieldLink own index (T f).1 (T f).2.1 (T f).2.2.1).before args s = true) (hfin : (T f).2.2.2 = true) (hin2 : meth.name = "<init>") (hdecl : (T f).1 = own) {ty : FieldType} {v : Value} (hd : parseFieldDescriptor (T f).2.2.1 = some ty) (hn : narrow ty v = v) (hfit : fits ty v = true) (hl : f < fs.length)
    (hdg : decode cc pc = .ok (.putfield index, 3)) (kk : ∀ (H : Heap) (locs : List Loc), mI k ad N (va_up g i (.inr (ci, fs.set f v))) A s H locs → W p l e R s m args below meth c H locs cells slots Q (F0 m (pc + 3) ls rest)) : W p l e R s m args below meth c H locs cells slots Q (F0 m pc ls (v :: .ref (ad i) :: rest)) :=
  va_putF (D := k.1) (cl := vwCl) (ref := (T f).1) hx hb hts hin ty0 hty hnm hown hE.1.1 hI.1 (mw_D hE.2.1 hE.2.2.1) hI.2 i (mw_at' hi he) hc f hf hlink (fun _ h => h) hfin hin2 hdecl hd hn hfit hl hdg (fun H1 locs1 hP _ hS => kk H1 locs1 ⟨by rw [mw_set hi] at hP; exact hP, hS⟩)
theorem m_iald (hx : p.tables.exec = Jvm.exec) (hb : c.code = cc) (hE : mE k ad N A s) (hI : mI k ad N g A s H locs) (i : Nat) (hi : i < N) {n : Nat} {f : Nat → Int32} (he : g i = .inl (k.2.1.1, n, .inl f)) {j : Nat} (hj : j < n) (hn : n < 2147483648) (hdg : decode cc pc = .ok (.iaload, 1))
    (kk : W p l e R s m args below meth c H locs cells slots Q (F0 m (pc + 1) ls (.int (f j) :: rest))) : W p l e R s m args below meth c H locs cells slots Q (F0 m pc ls (.int (nI j) :: .ref (ad i) :: rest)) :=
  va_iald (D := k.1) (cl := vwCl) hx hb hE.1.1 hI.1 i 0 (mw_at' hi he) rfl (vp_in_nI hj hn) hdg (by rw [nI_clamp (by omega)]; exact kk)
theorem m_aldq (hx : p.tables.exec = Jvm.exec) (hb : c.code = cc) (hE : mE k ad N A s) (hI : mI k ad N g A s H locs) (i : Nat) (hi : i < N) {n : Nat} {f : Nat → Option Nat} (he : g i = .inl (k.2.1.2.1, n, .inr (.inr (.inr (.inr f))))) {j : Nat} (hj : j < n) (hn : n < 2147483648) (hdg : decode cc pc = .ok (.aaload, 1))
    (kk : W p l e R s m args below meth c H locs cells slots Q (F0 m (pc + 1) ls (va_rf (f j) :: rest))) : W p l e R s m args below meth c H locs cells slots Q (F0 m pc ls (.int (nI j) :: .ref (ad i) :: rest)) :=
  va_aldq (D := k.1) (cl := vwCl) (C := "TapePrinter$Row") hx hb hE.1.1 hI.1 i 1 (mw_at' hi he) rfl (vp_in_nI hj hn) hdg (by rw [nI_clamp (by omega)]; exact kk)
theorem m_iast (hx : p.tables.exec = Jvm.exec) (hb : c.code = cc) (hE : mE k ad N A s) (hI : mI k ad N g A s H locs) (i : Nat) (hi : i < N) {n : Nat} {f : Nat → Int32} (he : g i = .inl (k.2.1.1, n, .inl f)) {j : Nat} {x : Int32} (hj : j < n) (hn : n < 2147483648) (hdg : decode cc pc = .ok (.iastore, 1))
    (kk : ∀ (H : Heap) (locs : List Loc), mI k ad N (va_up g i (.inl (k.2.1.1, n, .inl (upd f j x)))) A s H locs → W p l e R s m args below meth c H locs cells slots Q (F0 m (pc + 1) ls rest)) : W p l e R s m args below meth c H locs cells slots Q (F0 m pc ls (.int x :: .int (nI j) :: .ref (ad i) :: rest)) :=
  va_iast (D := k.1) (cl := vwCl) hx hb hE.1.1 hI.1 (mw_D hE.2.1 hE.2.2.1) hI.2 i 0 (mw_at' hi he) rfl (vp_in_nI hj hn) hdg (fun H1 locs1 hP _ hS => kk H1 locs1 ⟨by rw [mw_set hi, nI_clamp (by omega)] at hP; exact hP, hS⟩)
theorem m_aleni (hx : p.tables.exec = Jvm.exec) (hb : c.code = cc) (hE : mE k ad N A s) (hI : mI k ad N g A s H locs) (i : Nat) (hi : i < N) {n : Nat} {f : Nat → Int32} (he : g i = .inl (k.2.1.1, n, .inl f)) (hdg : decode cc pc = .ok (.arraylength, 1))
    (kk : W p l e R s m args below meth c H locs cells slots Q (F0 m (pc + 1) ls (.int (nI n) :: rest))) : W p l e R s m args below meth c H locs cells slots Q (F0 m pc ls (.ref (ad i) :: rest)) :=
  va_alen (D := k.1) (cl := vwCl) hx hb hE.1.1 hI.1 i 0 (mw_at' hi he) rfl rfl hdg kk
theorem m_alenq (hx : p.tables.exec = Jvm.exec) (hb : c.code = cc) (hE : mE k ad N A s) (hI : mI k ad N g A s H locs) (i : Nat) (hi : i < N) {n : Nat} {f : Nat → Option Nat} (he : g i = .inl (k.2.1.2.1, n, .inr (.inr (.inr (.inr f))))) (hdg : decode cc pc = .ok (.arraylength, 1))
    (kk : W p l e R s m args below meth c H locs cells slots Q (F0 m (pc + 1) ls (.int (nI n) :: rest))) : W p l e R s m args below meth c H locs cells slots Q (F0 m pc ls (.ref (ad i) :: rest)) :=
  va_alen (D := k.1) (cl := vwCl) hx hb hE.1.1 hI.1 i 1 (mw_at' hi he) rfl rfl hdg kk
-- ends
theorem m_iret (hx : p.tables.exec = Jvm.exec) (hb : c.code = cc) (hr : meth.sig.returnType = some .int) (hlocks : meth.locks = false) (hI : mI k ad N g A s H locs) {post : Int32 → (Nat → va_E) → Prop} {v : Int32} (hp : post v g) (hdg : decode cc pc = .ok (.ireturn, 1)) :
    W p l e R s m args below meth c H locs cells slots (MQ below (va_Qi post (mB k ad N) A) args s cells slots A) (F0 m pc ls [.int v]) :=
  W.iret (v := v) hx hb hr (fun t ht hW => ⟨⟨v, g, rfl, hp, by unfold mB; rw [ht]; exact hI.1⟩, hI.2.F ht⟩) hI.2.2.2 hdg hlocks
theorem m_zret (hx : p.tables.exec = Jvm.exec) (hb : c.code = cc) (hr : meth.sig.returnType = some .boolean) (hlocks : meth.locks = false) (hI : mI k ad N g A s H locs) {post : Int32 → (Nat → va_E) → Prop} {v : Bool} (hp : post (bI v) g) (hdg : decode cc pc = .ok (.ireturn, 1)) :
    W p l e R s m args below meth c H locs cells slots (MQ below (va_Qi post (mB k ad N) A) args s cells slots A) (F0 m pc ls [.int (bI v)]) :=
  W.zret (v := bI v) hx hb hr (bI_nar v) (fun t ht hW => ⟨⟨bI v, g, rfl, hp, by unfold mB; rw [ht]; exact hI.1⟩, hI.2.F ht⟩) hI.2.2.2 hdg hlocks
theorem m_vret (hx : p.tables.exec = Jvm.exec) (hb : c.code = cc) (hr : meth.sig.returnType = none) (hlocks : meth.locks = false) (hI : mI k ad N g A s H locs) {post : (Nat → va_E) → Prop} (hp : post g) (hdg : decode cc pc = .ok (.return_, 1)) :
    W p l e R s m args below meth c H locs cells slots (MQ below (va_Qv post (mB k ad N) A) args s cells slots A) (F0 m pc ls []) :=
  W.vret hx hb hr (fun t ht hW => ⟨⟨g, rfl, hp, by unfold mB; rw [ht]; exact hI.1⟩, hI.2.F ht⟩) hI.2.2.2 hdg hlocks
theorem m_lret (hx : p.tables.exec = Jvm.exec) (hb : c.code = cc) (hr : meth.sig.returnType = some .long) (hlocks : meth.locks = false) (hI : mI k ad N g A s H locs) {post : Int64 → (Nat → va_E) → Prop} {v : Int64} (hp : post v g) (hdg : decode cc pc = .ok (.lreturn, 1)) :
    W p l e R s m args below meth c H locs cells slots (MQ below (va_Ql post (mB k ad N) A) args s cells slots A) (F0 m pc ls [.long v]) :=
  W.lret (v := v) hx hb hr (fun t ht hW => ⟨⟨v, g, rfl, hp, by unfold mB; rw [ht]; exact hI.1⟩, hI.2.F ht⟩) hI.2.2.2 hdg hlocks
theorem m_aret (hx : p.tables.exec = Jvm.exec) (hb : c.code = cc) {T : String} (hr : meth.sig.returnType = some (.object T)) (hlocks : meth.locks = false) (hI : mI k ad N g A s H locs) {post : Option Nat → (Nat → va_E) → Prop} {v : Option Nat} (hp : post v g) (hdg : decode cc pc = .ok (.areturn, 1)) :
    W p l e R s m args below meth c H locs cells slots (MQ below (va_Qq post (mB k ad N) A) args s cells slots A) (F0 m pc ls [va_rf v]) :=
  W.aret (v := va_rf v) hx hb hr (Or.inl ⟨_, rfl⟩) (by cases v with
    | none => exact Or.inl rfl
    | some a => exact Or.inr ⟨a, rfl⟩) (fun t ht hW => ⟨⟨v, g, rfl, hp, by unfold mB; rw [ht]; exact hI.1⟩, hI.2.F ht⟩) hI.2.2.2 hdg hlocks
-- calls
variable {y : MethodName} {bytes : ByteArray} {maxL nL n index : Nat} {ret : Option FieldType} {ws : List Cond} {rm : Room} {Ts : List Cond} {own C : String} {As : List Value} {st0 : List Value}
theorem m_preV (hE : mE k ad N A s) (hI : mI k ad N g A s H locs) {ci i : Nat} {fs : List Value} {T : u_T} {N' : Nat} (hi : i < N) (he : g i = .inr (ci, fs)) (hc : vwCl[ci]? = some (C, T, N')) : PreV s H C (ad i) (mPc k ad N g H.size (.ref (ad i) :: As)) As :=
  ⟨mPc.blind, va_recv hE.1.1 hI.1 hc (mw_at' hi he), fun U hU hW => ⟨rfl, by rw [hU], mK.call hE.1 hI.2 (mA_sub hE hI) hU hW, by rw [hU]; exact hI.1, hE.2.1⟩⟩
theorem m_preS (hE : mE k ad N A s) (hI : mI k ad N g A s H locs) : PreS s H (mPc k ad N g H.size As) As :=
  ⟨mPc.blind, fun U hU hW => ⟨rfl, by rw [hU], mK.call hE.1 hI.2 (mA_sub hE hI) hU hW, by rw [hU]; exact hI.1, hE.2.1⟩⟩
theorem m_callVi (hfix : CallFix p m c cc nL s args Ts own) (hE : mE k ad N A s) (hI : mI k ad N g A s H locs) {post : Int32 → (Nat → va_E) → Prop} {i : Nat} (hM : mCi k l y ws rm ad N g H.size (.ref (ad i) :: As) post) (cw : CallW R s args own C index y bytes maxL ret ws rm 0 0 n) {ci : Nat} {fs : List Value} {T : u_T} {N' : Nat} (hi : i < N) (he : g i = .inr (ci, fs)) (hc : vwCl[ci]? = some (C, T, N'))
    (hn : As.length = n) (hsize : ls.size = nL) (hst : st0 = As.reverse ++ .ref (ad i) :: rest) (hW : (rest.map fun v => v.category).sum ≤ 8) (hdg : decode cc pc = .ok (.invokevirtual index, 3)) (hf : cells ≤ R.cells ∧ slots ≤ R.slots)
    (kk : ∀ (r : Int32) (g : Nat → va_E) (H : Heap) (locs : List Loc), post r g → mI k ad N g A s H locs → W p l e R s m args below meth c H locs cells slots Q (F0 m (pc + 3) ls (.int r :: rest))) : W p l e R s m args below meth c H locs cells slots Q (F0 m pc ls st0) :=
  va_calli (va_runV (As := As) (rest := rest) hfix hM cw (m_preV hE hI hi he hc) rfl hn hsize hst (lv_room hW) hdg hf) hI.2 (fun q _ h => mA_sub hE hI q h) (mA_sub hE hI) (fun r g' t H1 locs1 ht hvm hp hB hz hk hS => kk r g' H1 locs1 hp ⟨by rw [← ht]; exact hB, hS⟩)
theorem m_callVl (hfix : CallFix p m c cc nL s args Ts own) (hE : mE k ad N A s) (hI : mI k ad N g A s H locs) {post : Int64 → (Nat → va_E) → Prop} {i : Nat} (hM : mCl k l y ws rm ad N g H.size (.ref (ad i) :: As) post) (cw : CallW R s args own C index y bytes maxL ret ws rm 0 0 n) {ci : Nat} {fs : List Value} {T : u_T} {N' : Nat} (hi : i < N) (he : g i = .inr (ci, fs)) (hc : vwCl[ci]? = some (C, T, N'))
    (hn : As.length = n) (hsize : ls.size = nL) (hst : st0 = As.reverse ++ .ref (ad i) :: rest) (hW : (rest.map fun v => v.category).sum ≤ 8) (hdg : decode cc pc = .ok (.invokevirtual index, 3)) (hf : cells ≤ R.cells ∧ slots ≤ R.slots)
    (kk : ∀ (r : Int64) (g : Nat → va_E) (H : Heap) (locs : List Loc), post r g → mI k ad N g A s H locs → W p l e R s m args below meth c H locs cells slots Q (F0 m (pc + 3) ls (.long r :: rest))) : W p l e R s m args below meth c H locs cells slots Q (F0 m pc ls st0) :=
  va_calll (va_runV (As := As) (rest := rest) hfix hM cw (m_preV hE hI hi he hc) rfl hn hsize hst (lv_room hW) hdg hf) hI.2 (fun q _ h => mA_sub hE hI q h) (mA_sub hE hI) (fun r g' t H1 locs1 ht hvm hp hB hz hk hS => kk r g' H1 locs1 hp ⟨by rw [← ht]; exact hB, hS⟩)
theorem m_callVv (hfix : CallFix p m c cc nL s args Ts own) (hE : mE k ad N A s) (hI : mI k ad N g A s H locs) {post : (Nat → va_E) → Prop} {i : Nat} (hM : mCv k l y ws rm ad N g H.size (.ref (ad i) :: As) post) (cw : CallW R s args own C index y bytes maxL ret ws rm 0 0 n) {ci : Nat} {fs : List Value} {T : u_T} {N' : Nat} (hi : i < N) (he : g i = .inr (ci, fs)) (hc : vwCl[ci]? = some (C, T, N'))
    (hn : As.length = n) (hsize : ls.size = nL) (hst : st0 = As.reverse ++ .ref (ad i) :: rest) (hW : (rest.map fun v => v.category).sum ≤ 8) (hdg : decode cc pc = .ok (.invokevirtual index, 3)) (hf : cells ≤ R.cells ∧ slots ≤ R.slots)
    (kk : ∀ (g : Nat → va_E) (H : Heap) (locs : List Loc), post g → mI k ad N g A s H locs → W p l e R s m args below meth c H locs cells slots Q (F0 m (pc + 3) ls rest)) : W p l e R s m args below meth c H locs cells slots Q (F0 m pc ls st0) :=
  va_callv (va_runV (As := As) (rest := rest) hfix hM cw (m_preV hE hI hi he hc) rfl hn hsize hst (lv_room hW) hdg hf) hI.2 (fun q _ h => mA_sub hE hI q h) (mA_sub hE hI) (fun g' t H1 locs1 ht hvm hp hB hz hk hS => kk g' H1 locs1 hp ⟨by rw [← ht]; exact hB, hS⟩)
theorem m_callVq (hfix : CallFix p m c cc nL s args Ts own) (hE : mE k ad N A s) (hI : mI k ad N g A s H locs) {post : Option Nat → (Nat → va_E) → Prop} {i : Nat} (hM : mCq k l y ws rm ad N g H.size (.ref (ad i) :: As) post) (cw : CallW R s args own C index y bytes maxL ret ws rm 0 0 n) {ci : Nat} {fs : List Value} {T : u_T} {N' : Nat} (hi : i < N) (he : g i = .inr (ci, fs)) (hc : vwCl[ci]? = some (C, T, N'))
    (hn : As.length = n) (hsize : ls.size = nL) (hst : st0 = As.reverse ++ .ref (ad i) :: rest) (hW : (rest.map fun v => v.category).sum ≤ 8) (hdg : decode cc pc = .ok (.invokevirtual index, 3)) (hf : cells ≤ R.cells ∧ slots ≤ R.slots)
    (kk : ∀ (r : Option Nat) (g : Nat → va_E) (H : Heap) (locs : List Loc), post r g → mI k ad N g A s H locs → W p l e R s m args below meth c H locs cells slots Q (F0 m (pc + 3) ls (va_rf r :: rest))) : W p l e R s m args below meth c H locs cells slots Q (F0 m pc ls st0) :=
  va_callq (va_runV (As := As) (rest := rest) hfix hM cw (m_preV hE hI hi he hc) rfl hn hsize hst (lv_room hW) hdg hf) hI.2 (fun q _ h => mA_sub hE hI q h) (mA_sub hE hI) (fun r g' t H1 locs1 ht hvm hp hB hz hk hS => kk r g' H1 locs1 hp ⟨by rw [← ht]; exact hB, hS⟩)
theorem m_callSi (hfix : CallFix p m c cc nL s args Ts own) (hE : mE k ad N A s) (hI : mI k ad N g A s H locs) {post : Int32 → (Nat → va_E) → Prop} (hM : mCi k l y ws rm ad N g H.size As post) (cw : CallB R s args own index y bytes maxL ret ws rm 0 0 n ∧ (Cond.static y).before args s = true)
    (hn : As.length = n) (hsize : ls.size = nL) (hst : st0 = As.reverse ++ rest) (hW : (rest.map fun v => v.category).sum ≤ 8) (hdg : decode cc pc = .ok (.invokestatic index, 3)) (hf : cells ≤ R.cells ∧ slots ≤ R.slots)
    (kk : ∀ (r : Int32) (g : Nat → va_E) (H : Heap) (locs : List Loc), post r g → mI k ad N g A s H locs → W p l e R s m args below meth c H locs cells slots Q (F0 m (pc + 3) ls (.int r :: rest))) : W p l e R s m args below meth c H locs cells slots Q (F0 m pc ls st0) :=
  va_calli (va_runS (As := As) (rest := rest) hfix hM cw (m_preS hE hI) rfl hn hsize hst (lv_room hW) hdg hf) hI.2 (fun q _ h => mA_sub hE hI q h) (mA_sub hE hI) (fun r g' t H1 locs1 ht hvm hp hB hz hk hS => kk r g' H1 locs1 hp ⟨by rw [← ht]; exact hB, hS⟩)
theorem m_callSl (hfix : CallFix p m c cc nL s args Ts own) (hE : mE k ad N A s) (hI : mI k ad N g A s H locs) {post : Int64 → (Nat → va_E) → Prop} (hM : mCl k l y ws rm ad N g H.size As post) (cw : CallB R s args own index y bytes maxL ret ws rm 0 0 n ∧ (Cond.static y).before args s = true)
    (hn : As.length = n) (hsize : ls.size = nL) (hst : st0 = As.reverse ++ rest) (hW : (rest.map fun v => v.category).sum ≤ 8) (hdg : decode cc pc = .ok (.invokestatic index, 3)) (hf : cells ≤ R.cells ∧ slots ≤ R.slots)
    (kk : ∀ (r : Int64) (g : Nat → va_E) (H : Heap) (locs : List Loc), post r g → mI k ad N g A s H locs → W p l e R s m args below meth c H locs cells slots Q (F0 m (pc + 3) ls (.long r :: rest))) : W p l e R s m args below meth c H locs cells slots Q (F0 m pc ls st0) :=
  va_calll (va_runS (As := As) (rest := rest) hfix hM cw (m_preS hE hI) rfl hn hsize hst (lv_room hW) hdg hf) hI.2 (fun q _ h => mA_sub hE hI q h) (mA_sub hE hI) (fun r g' t H1 locs1 ht hvm hp hB hz hk hS => kk r g' H1 locs1 hp ⟨by rw [← ht]; exact hB, hS⟩)

-- an answer and a memory that are known
theorem m_deti {v : Int32} {g1 : Nat → va_E} (kk : ∀ (H : Heap) (locs : List Loc), mI k ad N g1 A s H locs → W p l e R s m args below meth c H locs cells slots Q (F0 m pc ls (.int v :: rest))) : ∀ (r : Int32) (g : Nat → va_E) (H : Heap) (locs : List Loc), (r = v ∧ g = g1) → mI k ad N g A s H locs → W p l e R s m args below meth c H locs cells slots Q (F0 m pc ls (.int r :: rest)) := by
  rintro r g H locs ⟨rfl, rfl⟩ hI
  exact kk H locs hI
theorem m_detl {v : Int64} {g1 : Nat → va_E} (kk : ∀ (H : Heap) (locs : List Loc), mI k ad N g1 A s H locs → W p l e R s m args below meth c H locs cells slots Q (F0 m pc ls (.long v :: rest))) : ∀ (r : Int64) (g : Nat → va_E) (H : Heap) (locs : List Loc), (r = v ∧ g = g1) → mI k ad N g A s H locs → W p l e R s m args below meth c H locs cells slots Q (F0 m pc ls (.long r :: rest)) := by
  rintro r g H locs ⟨rfl, rfl⟩ hI
  exact kk H locs hI
theorem m_detq {v : Option Nat} {g1 : Nat → va_E} (kk : ∀ (H : Heap) (locs : List Loc), mI k ad N g1 A s H locs → W p l e R s m args below meth c H locs cells slots Q (F0 m pc ls (va_rf v :: rest))) : ∀ (r : Option Nat) (g : Nat → va_E) (H : Heap) (locs : List Loc), (r = v ∧ g = g1) → mI k ad N g A s H locs → W p l e R s m args below meth c H locs cells slots Q (F0 m pc ls (va_rf r :: rest)) := by
  rintro r g H locs ⟨rfl, rfl⟩ hI
  exact kk H locs hI
theorem m_detv {g1 : Nat → va_E} {st : List Value} (kk : ∀ (H : Heap) (locs : List Loc), mI k ad N g1 A s H locs → W p l e R s m args below meth c H locs cells slots Q (F0 m pc ls st)) : ∀ (g : Nat → va_E) (H : Heap) (locs : List Loc), g = g1 → mI k ad N g A s H locs → W p l e R s m args below meth c H locs cells slots Q (F0 m pc ls st) := by
  rintro g H locs rfl hI
  exact kk H locs hI

theorem m_rf {o : Option Nat} {a : Nat} (h : o = some a) (kk : W p l e R s m args below meth c H locs cells slots Q (F0 m pc ls (.ref a :: rest))) : W p l e R s m args below meth c H locs cells slots Q (F0 m pc ls (va_rf o :: rest)) := by
  subst h
  exact kk
theorem m_rfN {o : Option Nat} (h : o = none) (kk : W p l e R s m args below meth c H locs cells slots Q (F0 m pc ls (.null :: rest))) : W p l e R s m args below meth c H locs cells slots Q (F0 m pc ls (va_rf o :: rest)) := by
  subst h
  exact kk
/-- a loop: its invariant, a measure, the memory and the locals at its head -/
theorem m_loop {σ : Type} (Inv : σ → Prop) (μ : σ → Nat) (gf : σ → Nat → va_E) (lf : σ → List (Nat × Value)) {nL : Nat} (x0 : σ) (h0 : Inv x0) (hI0 : mI k ad N (gf x0) A s H locs) (hl0 : lv_has ls nL (lf x0))
    (step : ∀ x : σ, Inv x → (∀ y : σ, Inv y → μ y < μ x → ∀ (H : Heap) (locs : List Loc) (ls : Array Slot), mI k ad N (gf y) A s H locs → lv_has ls nL (lf y) → W p l e R s m args below meth c H locs cells slots Q (F0 m pc ls [])) →
      ∀ (H : Heap) (locs : List Loc) (ls : Array Slot), mI k ad N (gf x) A s H locs → lv_has ls nL (lf x) → W p l e R s m args below meth c H locs cells slots Q (F0 m pc ls [])) :
    W p l e R s m args below meth c H locs cells slots Q (F0 m pc ls []) := by
  have key : ∀ (n : Nat) (x : σ), μ x < n → Inv x → ∀ (H : Heap) (locs : List Loc) (ls : Array Slot), mI k ad N (gf x) A s H locs → lv_has ls nL (lf x) → W p l e R s m args below meth c H locs cells slots Q (F0 m pc ls []) := by
    intro n
    induction n with
    | zero => intro x hx; exact absurd hx (Nat.not_lt_zero _)
    | succ n ih => intro x hx hi; exact step x hi (fun y hy hlt => ih y (by omega) hy)
  exact key (μ x0 + 1) x0 (Nat.lt_succ_self _) h0 H locs ls hI0 hl0
-- small naturals on the stack
theorem m_iaddN (hx : p.tables.exec = Jvm.exec) (hb : c.code = cc) {a b : Nat} (hdg : decode cc pc = .ok (.iadd, 1)) (kk : W p l e R s m args below meth c H locs cells slots Q (F0 m (pc + 1) ls (.int (nI (a + b)) :: rest))) : W p l e R s m args below meth c H locs cells slots Q (F0 m pc ls (.int (nI b) :: .int (nI a) :: rest)) := lv_iadd hx hb hdg (by rw [nI_add]; exact kk)
theorem m_imulN (hx : p.tables.exec = Jvm.exec) (hb : c.code = cc) {a b : Nat} (hdg : decode cc pc = .ok (.imul, 1)) (kk : W p l e R s m args below meth c H locs cells slots Q (F0 m (pc + 1) ls (.int (nI (a * b)) :: rest))) : W p l e R s m args below meth c H locs cells slots Q (F0 m pc ls (.int (nI b) :: .int (nI a) :: rest)) := lv_imul hx hb hdg (by rw [pk_mul]; exact kk)
theorem m_isubN (hx : p.tables.exec = Jvm.exec) (hb : c.code = cc) {a b : Nat} (h : b ≤ a) (hdg : decode cc pc = .ok (.isub, 1)) (kk : W p l e R s m args below meth c H locs cells slots Q (F0 m (pc + 1) ls (.int (nI (a - b)) :: rest))) : W p l e R s m args below meth c H locs cells slots Q (F0 m pc ls (.int (nI b) :: .int (nI a) :: rest)) := lv_isub hx hb hdg (by rw [pk_sub h]; exact kk)
theorem m_iremN (hx : p.tables.exec = Jvm.exec) (hb : c.code = cc) {a b : Nat} (ha : a < 2147483648) (h0 : 0 < b) (hbb : b < 2147483648) (hdg : decode cc pc = .ok (.irem, 1)) (kk : W p l e R s m args below meth c H locs cells slots Q (F0 m (pc + 1) ls (.int (nI (a % b)) :: rest))) : W p l e R s m args below meth c H locs cells slots Q (F0 m pc ls (.int (nI b) :: .int (nI a) :: rest)) := lv_irem hx hb hdg (nI_ne0 h0 hbb) (by rw [pk_rem ha h0 hbb]; exact kk)
theorem m_leN {p q : Nat} (hp : p < 2147483648) (hq : q < 2147483648) : nI p ≤ nI q ↔ p ≤ q := nI_leI hp hq
theorem m_ltN {p q : Nat} (hp : p < 2147483648) (hq : q < 2147483648) : nI p < nI q ↔ p < q := nI_ltI hp hq
theorem m_eqN {p q : Nat} (hp : p < 2147483648) (hq : q < 2147483648) : nI p = nI q ↔ p = q := nI_eq hp hq
theorem m_cgeN (hx : p.tables.exec = Jvm.exec) (hb : c.code = cc) {a b : Nat} (ha : a < 2147483648) (hbb : b < 2147483648) {off : Int} {tgt : Nat} (hdg : decode cc pc = .ok (.if_icmp .ge off, 3)) (ht : (pc : Int) + off = (tgt : Int)) (kt : b ≤ a → W p l e R s m args below meth c H locs cells slots Q (F0 m tgt ls rest)) (kf : a < b → W p l e R s m args below meth c H locs cells slots Q (F0 m (pc + 3) ls rest)) : W p l e R s m args below meth c H locs cells slots Q (F0 m pc ls (.int (nI b) :: .int (nI a) :: rest)) := lv_icmp_ge hx hb hdg ht (fun h => kt ((m_leN hbb ha).mp h)) (fun h => kf (Nat.lt_of_not_le (fun z => h ((m_leN hbb ha).mpr z))))
theorem m_cgtN (hx : p.tables.exec = Jvm.exec) (hb : c.code = cc) {a b : Nat} (ha : a < 2147483648) (hbb : b < 2147483648) {off : Int} {tgt : Nat} (hdg : decode cc pc = .ok (.if_icmp .gt off, 3)) (ht : (pc : Int) + off = (tgt : Int)) (kt : b < a → W p l e R s m args below meth c H locs cells slots Q (F0 m tgt ls rest)) (kf : a ≤ b → W p l e R s m args below meth c H locs cells slots Q (F0 m (pc + 3) ls rest)) : W p l e R s m args below meth c H locs cells slots Q (F0 m pc ls (.int (nI b) :: .int (nI a) :: rest)) := lv_icmp_gt hx hb hdg ht (fun h => kt ((m_ltN hbb ha).mp h)) (fun h => kf (Nat.le_of_not_lt (fun z => h ((m_ltN hbb ha).mpr z))))
theorem m_cltN (hx : p.tables.exec = Jvm.exec) (hb : c.code = cc) {a b : Nat} (ha : a < 2147483648) (hbb : b < 2147483648) {off : Int} {tgt : Nat} (hdg : decode cc pc = .ok (.if_icmp .lt off, 3)) (ht : (pc : Int) + off = (tgt : Int)) (kt : a < b → W p l e R s m args below meth c H locs cells slots Q (F0 m tgt ls rest)) (kf : b ≤ a → W p l e R s m args below meth c H locs cells slots Q (F0 m (pc + 3) ls rest)) : W p l e R s m args below meth c H locs cells slots Q (F0 m pc ls (.int (nI b) :: .int (nI a) :: rest)) := lv_icmp_lt hx hb hdg ht (fun h => kt ((m_ltN ha hbb).mp h)) (fun h => kf (Nat.le_of_not_lt (fun z => h ((m_ltN ha hbb).mpr z))))
theorem m_cleN (hx : p.tables.exec = Jvm.exec) (hb : c.code = cc) {a b : Nat} (ha : a < 2147483648) (hbb : b < 2147483648) {off : Int} {tgt : Nat} (hdg : decode cc pc = .ok (.if_icmp .le off, 3)) (ht : (pc : Int) + off = (tgt : Int)) (kt : a ≤ b → W p l e R s m args below meth c H locs cells slots Q (F0 m tgt ls rest)) (kf : b < a → W p l e R s m args below meth c H locs cells slots Q (F0 m (pc + 3) ls rest)) : W p l e R s m args below meth c H locs cells slots Q (F0 m pc ls (.int (nI b) :: .int (nI a) :: rest)) := lv_icmp_le hx hb hdg ht (fun h => kt ((m_leN ha hbb).mp h)) (fun h => kf (Nat.lt_of_not_le (fun z => h ((m_leN ha hbb).mpr z))))
theorem m_ceqN (hx : p.tables.exec = Jvm.exec) (hb : c.code = cc) {a b : Nat} (ha : a < 2147483648) (hbb : b < 2147483648) {off : Int} {tgt : Nat} (hdg : decode cc pc = .ok (.if_icmp .eq off, 3)) (ht : (pc : Int) + off = (tgt : Int)) (kt : a = b → W p l e R s m args below meth c H locs cells slots Q (F0 m tgt ls rest)) (kf : a ≠ b → W p l e R s m args below meth c H locs cells slots Q (F0 m (pc + 3) ls rest)) : W p l e R s m args below meth c H locs cells slots Q (F0 m pc ls (.int (nI b) :: .int (nI a) :: rest)) := lv_icmp_eq hx hb hdg ht (fun h => kt ((m_eqN ha hbb).mp h)) (fun h => kf (fun z => h ((m_eqN ha hbb).mpr z)))
theorem m_cneN (hx : p.tables.exec = Jvm.exec) (hb : c.code = cc) {a b : Nat} (ha : a < 2147483648) (hbb : b < 2147483648) {off : Int} {tgt : Nat} (hdg : decode cc pc = .ok (.if_icmp .ne off, 3)) (ht : (pc : Int) + off = (tgt : Int)) (kt : a ≠ b → W p l e R s m args below meth c H locs cells slots Q (F0 m tgt ls rest)) (kf : a = b → W p l e R s m args below meth c H locs cells slots Q (F0 m (pc + 3) ls rest)) : W p l e R s m args below meth c H locs cells slots Q (F0 m pc ls (.int (nI b) :: .int (nI a) :: rest)) := lv_icmp_ne hx hb hdg ht (fun h => kt (fun z => h ((m_eqN ha hbb).mpr z))) (fun h => kf ((m_eqN ha hbb).mp h))
theorem m_zltN (hx : p.tables.exec = Jvm.exec) (hb : c.code = cc) {a : Nat} (ha : a < 2147483648) {off : Int} {tgt : Nat} (hdg : decode cc pc = .ok (.ifCond .lt off, 3)) (ht : (pc : Int) + off = (tgt : Int)) (kf : W p l e R s m args below meth c H locs cells slots Q (F0 m (pc + 3) ls rest)) : W p l e R s m args below meth c H locs cells slots Q (F0 m pc ls (.int (nI a) :: rest)) := lv_if_lt hx hb hdg ht (fun h => absurd h (nI_pos ha)) (fun _ => kf)
theorem m_zgeN (hx : p.tables.exec = Jvm.exec) (hb : c.code = cc) {a : Nat} (ha : a < 2147483648) {off : Int} {tgt : Nat} (hdg : decode cc pc = .ok (.ifCond .ge off, 3)) (ht : (pc : Int) + off = (tgt : Int)) (kt : W p l e R s m args below meth c H locs cells slots Q (F0 m tgt ls rest)) : W p l e R s m args below meth c H locs cells slots Q (F0 m pc ls (.int (nI a) :: rest)) := lv_if_ge hx hb hdg ht (fun _ => kt) (fun h => absurd (nI_pos' ha) h)
theorem nI_z {a : Nat} (ha : a < 2147483648) : nI a = 0 ↔ a = 0 := by
  rw [← nI_0]; exact nI_eq ha (by omega)
theorem m_zeqN (hx : p.tables.exec = Jvm.exec) (hb : c.code = cc) {a : Nat} (ha : a < 2147483648) {off : Int} {tgt : Nat} (hdg : decode cc pc = .ok (.ifCond .eq off, 3)) (ht : (pc : Int) + off = (tgt : Int)) (kt : a = 0 → W p l e R s m args below meth c H locs cells slots Q (F0 m tgt ls rest)) (kf : a ≠ 0 → W p l e R s m args below meth c H locs cells slots Q (F0 m (pc + 3) ls rest)) : W p l e R s m args below meth c H locs cells slots Q (F0 m pc ls (.int (nI a) :: rest)) := lv_if_eq hx hb hdg ht (fun h => kt ((nI_z ha).mp h)) (fun h => kf (fun z => h ((nI_z ha).mpr z)))
theorem m_zneN (hx : p.tables.exec = Jvm.exec) (hb : c.code = cc) {a : Nat} (ha : a < 2147483648) {off : Int} {tgt : Nat} (hdg : decode cc pc = .ok (.ifCond .ne off, 3)) (ht : (pc : Int) + off = (tgt : Int)) (kt : a ≠ 0 → W p l e R s m args below meth c H locs cells slots Q (F0 m tgt ls rest)) (kf : a = 0 → W p l e R s m args below meth c H locs cells slots Q (F0 m (pc + 3) ls rest)) : W p l e R s m args below meth c H locs cells slots Q (F0 m pc ls (.int (nI a) :: rest)) := lv_if_ne hx hb hdg ht (fun h => kt (fun z => h ((nI_z ha).mpr z))) (fun h => kf ((nI_z ha).mp h))
theorem m_zleN (hx : p.tables.exec = Jvm.exec) (hb : c.code = cc) {a : Nat} (ha : a < 2147483648) {off : Int} {tgt : Nat} (hdg : decode cc pc = .ok (.ifCond .le off, 3)) (ht : (pc : Int) + off = (tgt : Int)) (kt : a = 0 → W p l e R s m args below meth c H locs cells slots Q (F0 m tgt ls rest)) (kf : 0 < a → W p l e R s m args below meth c H locs cells slots Q (F0 m (pc + 3) ls rest)) : W p l e R s m args below meth c H locs cells slots Q (F0 m pc ls (.int (nI a) :: rest)) :=
  lv_if_le hx hb hdg ht (fun h => kt (by rw [← nI_0] at h; have := (m_leN ha (by omega)).mp h; omega)) (fun h => kf (Nat.pos_of_ne_zero (fun z => h (by rw [z, nI_0]; decide))))
theorem m_zeqB (hx : p.tables.exec = Jvm.exec) (hb : c.code = cc) {b : Bool} {off : Int} {tgt : Nat} (hdg : decode cc pc = .ok (.ifCond .eq off, 3)) (ht : (pc : Int) + off = (tgt : Int)) (kt : b = false → W p l e R s m args below meth c H locs cells slots Q (F0 m tgt ls rest)) (kf : b = true → W p l e R s m args below meth c H locs cells slots Q (F0 m (pc + 3) ls rest)) : W p l e R s m args below meth c H locs cells slots Q (F0 m pc ls (.int (bI b) :: rest)) := lv_if_eq hx hb hdg ht (fun h => kt (bI_0 h)) (fun h => kf (bI_1 h))
theorem m_zneB (hx : p.tables.exec = Jvm.exec) (hb : c.code = cc) {b : Bool} {off : Int} {tgt : Nat} (hdg : decode cc pc = .ok (.ifCond .ne off, 3)) (ht : (pc : Int) + off = (tgt : Int)) (kt : b = true → W p l e R s m args below meth c H locs cells slots Q (F0 m tgt ls rest)) (kf : b = false → W p l e R s m args below meth c H locs cells slots Q (F0 m (pc + 3) ls rest)) : W p l e R s m args below meth c H locs cells slots Q (F0 m pc ls (.int (bI b) :: rest)) := lv_if_ne hx hb hdg ht (fun h => kt (bI_1 h)) (fun h => kf (bI_0 h))
theorem m_ceqB (hx : p.tables.exec = Jvm.exec) (hb : c.code = cc) {a b : Bool} {off : Int} {tgt : Nat} (hdg : decode cc pc = .ok (.if_icmp .eq off, 3)) (ht : (pc : Int) + off = (tgt : Int)) (kt : a = b → W p l e R s m args below meth c H locs cells slots Q (F0 m tgt ls rest)) (kf : a ≠ b → W p l e R s m args below meth c H locs cells slots Q (F0 m (pc + 3) ls rest)) : W p l e R s m args below meth c H locs cells slots Q (F0 m pc ls (.int (bI b) :: .int (bI a) :: rest)) := lv_icmp_eq hx hb hdg ht (fun h => kt (bI_inj h)) (fun h => kf (fun z => h (by rw [z])))
theorem m_cneB (hx : p.tables.exec = Jvm.exec) (hb : c.code = cc) {a b : Bool} {off : Int} {tgt : Nat} (hdg : decode cc pc = .ok (.if_icmp .ne off, 3)) (ht : (pc : Int) + off = (tgt : Int)) (kt : a ≠ b → W p l e R s m args below meth c H locs cells slots Q (F0 m tgt ls rest)) (kf : a = b → W p l e R s m args below meth c H locs cells slots Q (F0 m (pc + 3) ls rest)) : W p l e R s m args below meth c H locs cells slots Q (F0 m pc ls (.int (bI b) :: .int (bI a) :: rest)) := lv_icmp_ne hx hb hdg ht (fun h => kt (fun z => h (by rw [z]))) (fun h => kf (bI_inj h))
end MR
end MB
