/-! A world that grows, and moves: cells are made, dropped, and take each other's roles. -/
def mPn (k : mC) (ad : Nat → Nat) (N : Nat) (g : Nat → va_E) (sz : Nat) (av : List Value) : Array Value → State → Prop := va_Pc av (fun U => (U.heap.size = sz ∧ mK k (mA ad N sz) U U.heap ∧ va_P k.1 vwCl (mw ad N g) U.heap ∧ mJ ad N) ∧ va_AO "TapePrinter$Row" U)
theorem mPn.blind {k : mC} {ad : Nat → Nat} {N : Nat} {g : Nat → va_E} {sz : Nat} {av : List Value} : FrameBlind (mPn k ad N g sz av) := fun a U gg mk h => ⟨h.1, ⟨h.2.1.1, mK.blind h.2.1.2.1, h.2.1.2.2.1, h.2.1.2.2.2⟩, va_AO.moved (u := U) (U := U.calling gg mk a) (State.WarmedH.refl U).alike h.2.2⟩
abbrev mNu : Type := (Nat → Nat) × (Nat → va_E)
def mBn (k : mC) (N N' sz : Nat) (u : mNu) (t : State) : Prop := va_P k.1 vwCl (mw u.1 N' u.2) t.heap ∧ mJ u.1 N' ∧ ∀ i, N ≤ i → i < N' → sz ≤ u.1 i
def mCn (k : mC) (l : Launch) (y : MethodName) (ws : List Cond) (rm : Room) (ad : Nat → Nat) (N : Nat) (g : Nat → va_E) (sz N' mc ms : Nat) (av : List Value) (post : (Nat → Nat) → (Nat → va_E) → Prop) : Prop :=
  Met l y ws rm (mPn k ad N g sz av) (va_Qv (S := mNu) (fun u => (∀ i, i < N → u.1 i = ad i) ∧ post u.1 u.2) (mBn k N N' sz) (mA ad N sz)) mc ms (mA ad N sz)
theorem mOfN {k : mC} {l : Launch} {y : MethodName} {ws ws' : List Cond} {rm : Room} {ad : Nat → Nat} {N : Nat} {g : Nat → va_E} {sz N' mc ms : Nat} {av : List Value} {cc : ByteArray} {maxL : Nat} {ret : Option FieldType} {post : (Nat → Nat) → (Nat → va_E) → Prop}
    (hy : plainName y.cls = true) (hw : ws = Cond.code y cc maxL ret :: ws') (hav : (lg_sl av).length ≤ maxL)
    (body : ∀ (p : Program) (e : Env) (s : State) (m : MethodId) (below : List Frame) (meth : Method) (c : Code), p.tables.exec = Jvm.exec → c.code = cc → meth.sig.returnType = ret → (∀ w ∈ ws, w.before av.toArray s = true) → s.vm.findClass y.cls = some m.cls → meth.locks = false → c.maxLocals = maxL → meth.name = y.name → va_AO "TapePrinter$Row" s → ∀ locs : List Loc,
      mE k ad N (mA ad N s.heap.size) s → mI k ad N g (mA ad N s.heap.size) s s.heap locs → ∀ ls : Array Slot, lv_has ls maxL (lv_args 0 av) →
      W p l e rm s m av.toArray below meth c s.heap locs 0 0 (MQ below (va_Qv (S := mNu) (fun u => (∀ i, i < N → u.1 i = ad i) ∧ post u.1 u.2) (mBn k N N' s.heap.size) (mA ad N s.heap.size)) av.toArray s mc ms (mA ad N s.heap.size)) (F0 m 0 ls [])) :
    mCn k l y ws rm ad N g sz N' mc ms av post := by
  refine Met.ofW (cc := cc) (maxL := maxL) (ret := ret) hy hw ?_
  intro p e s m args below meth c s₁ B hml hv
  obtain ⟨rfl, ⟨hsz, hK, hP, hJ⟩, hao⟩ := hv
  subst hsz
  rw [lg_entry_eq]
  exact body p e s m below meth c B.exec B.bytes B.returns (atoms_spec (ws := ws) B.pre) (findClass_of_methodNamed B.named) B.notSynchronized hml (name_of_methodNamed B.named B.method).1 hao [] ⟨hK, hJ, fun i hi => Or.inl ⟨i, hi, rfl⟩, fun q hq => Or.inr hq⟩ ⟨hP, va_S.rf⟩ _ (lv_entry av hav)
section MN
variable {p : Program} {l : Launch} {e : Env} {R : Room} {s : State} {m : MethodId} {args : Array Value} {below : List Frame} {meth : Method} {c : Code} {H : Heap} {locs : List Loc} {cells slots c1 s1 : Nat} {Q : State → Prop}
variable {cc : ByteArray} {pc : Nat} {ls : Array Slot} {rest : List Value} {k : mC} {ad : Nat → Nat} {N : Nat} {g : Nat → va_E} {A : Nat → Prop}
theorem m_stk {st st' : List Value} (h : st = st') (kk : W p l e R s m args below meth c H locs cells slots Q (F0 m pc ls st')) : W p l e R s m args below meth c H locs cells slots Q (F0 m pc ls st) := by rw [h]; exact kk
theorem m_cs (h1 : cells = c1) (h2 : slots = s1) {gf : JFrame} (kk : W p l e R s m args below meth c H locs c1 s1 Q gf) : W p l e R s m args below meth c H locs cells slots Q gf := by rw [h1, h2]; exact kk
theorem m_grow {H1 : Heap} {q : Nat} {e0 : va_E} (hE : mE k ad N A s) (hP : va_P k.1 vwCl (mw ad N g ++ [(q, e0)]) H1) (hD : va_D A (mw ad N g ++ [(q, e0)])) : va_P k.1 vwCl (mw (va_up ad N q) (N + 1) (va_up g N e0)) H1 ∧ mE k (va_up ad N q) (N + 1) A s := by
  rw [mw_push] at hP hD
  obtain ⟨h1, h2⟩ := mw_J hD
  exact ⟨hP, hE.1, h1, h2, hE.2.2.2⟩
theorem m_new (hx : p.tables.exec = Jvm.exec) (hb : c.code = cc) {own C : String} {T : u_T} {N' ci index : Nat} {Ts : List Cond} (hts : ∀ w ∈ Ts, w.before args s = true) (hin : ∀ w ∈ u_ws C T N', w ∈ Ts) (ty : Nat → FieldType) (hty : ∀ k, k < N' → parseFieldDescriptor (T k).2.2.1 = some (ty k)) (hown : s.vm.findClass own = some m.cls) (hcl : (Cond.classLink own index C).before args s = true) (hinst : (Cond.instantiable C N').before args s = true) (hini : (Cond.initialized C).before args s = true)
    (hE : mE k ad N A s) (hI : mI k ad N g A s H locs) (hc : vwCl[ci]? = some (C, T, N')) {fs : List Value} (hfs : ∀ j, j < N' → defaultValue (ty j) = vp_V fs j) (h1 : cells + 1 = c1) (h2 : slots + N' = s1) (hcells : c1 ≤ R.cells) (hslots : s1 ≤ R.slots) (hdg : decode cc pc = .ok (.new index, 3))
    (kk : ∀ (ad1 : Nat → Nat) (H1 : Heap), (∀ i, i < N → ad1 i = ad i) → mE k ad1 (N + 1) A s → mI k ad1 (N + 1) (va_up g N (.inr (ci, fs))) A s H1 locs → W p l e R s m args below meth c H1 locs c1 s1 Q (F0 m (pc + 3) ls (.ref (ad1 N) :: rest))) : W p l e R s m args below meth c H locs cells slots Q (F0 m pc ls rest) := by
  subst h1; subst h2
  refine va_new (D := k.1) (cl := vwCl) (tys := mTys k) hx hb hts hin ty hty hown hcl hinst hini hE.1.1 hI.1 (mw_D hE.2.1 hE.2.2.1) hI.2 hE.2.2.2 hc hfs hcells hslots hdg (fun q H1 hP hD hS => ?_)
  obtain ⟨h1, h2⟩ := m_grow hE hP hD
  have h3 := kk (va_up ad N q) H1 (fun i hi => va_up_ne _ _ (by omega)) h2 ⟨h1, hS⟩
  rw [va_up_self] at h3
  exact h3
theorem m_zi (cA : ClassId) (n : Nat) : vp_cell cA (n, .inl (fun _ => nI 0)) = arrV cA n (fun _ => defaultValue .int) := by rw [vp_cell_i, show nI 0 = (0 : Int32) from rfl] <;> rfl
theorem m_newi (hx : p.tables.exec = Jvm.exec) (hb : c.code = cc) (harr : (Cond.arrayClass .int).before args s = true) (hE : mE k ad N A s) (hI : mI k ad N g A s H locs) {n : Nat} (hn : n ≤ 2000) (h1 : cells + 1 = c1) (h2 : slots + n = s1) (hcells : c1 ≤ R.cells) (hslots : s1 ≤ R.slots) (hdg : decode cc pc = .ok (.newarray .int, 2))
    (kk : ∀ (ad1 : Nat → Nat) (H1 : Heap), (∀ i, i < N → ad1 i = ad i) → mE k ad1 (N + 1) A s → mI k ad1 (N + 1) (va_up g N (.inl (k.2.1.1, n, .inl (fun _ => nI 0)))) A s H1 locs → W p l e R s m args below meth c H1 locs c1 s1 Q (F0 m (pc + 2) ls (.ref (ad1 N) :: rest))) : W p l e R s m args below meth c H locs cells slots Q (F0 m pc ls (.int (nI n) :: rest)) := by
  subst h1; subst h2
  have hbz : n * componentBytes .int ≤ 536870912 := Nat.le_trans (Nat.mul_le_mul_right 4 hn) (by decide)
  refine va_newa (D := k.1) (cl := vwCl) (tys := mTys k) (atype := .int) (ty := .int) (N' := n) (a0 := (n, .inl (fun _ => nI 0))) hx hb harr rfl hE.1.1 hI.1 (mw_D hE.2.1 hE.2.2.1) hI.2 hE.2.2.2 (fun cA => m_zi cA n) (nI_pos (by omega)) (nI_clamp (by omega)) hbz hcells hslots hdg (fun q cA H1 hK hP hD hS => ?_)
  have e1 : s.vm.findClass ("[" ++ FieldType.int.toString) = some cA := (hK.2 4 (cA, .int) rfl).2
  have e2 : s.vm.findClass ("[" ++ FieldType.int.toString) = some k.2.1.1 := (hE.1.1.2 0 (k.2.1.1, .int) rfl).2
  have e3 : cA = k.2.1.1 := Option.some.inj (e1.symm.trans e2)
  subst e3
  obtain ⟨h1, h2⟩ := m_grow hE hP hD
  have h3 := kk (va_up ad N q) H1 (fun i hi => va_up_ne _ _ (by omega)) h2 ⟨h1, hS⟩
  rw [va_up_self] at h3
  exact h3
theorem m_newq (hx : p.tables.exec = Jvm.exec) (hb : c.code = cc) {own : String} {index : Nat} (hown : s.vm.findClass own = some m.cls) (hclink : (Cond.classLink own index "TapePrinter$Row").before args s = true) (hao : va_AO "TapePrinter$Row" s) (hE : mE k ad N A s) (hI : mI k ad N g A s H locs) {n : Nat} (hn : n ≤ 2000) (h1 : cells + 1 = c1) (h2 : slots + n = s1) (hcells : c1 ≤ R.cells) (hslots : s1 ≤ R.slots) (hdg : decode cc pc = .ok (.anewarray index, 3))
    (kk : ∀ (ad1 : Nat → Nat) (H1 : Heap), (∀ i, i < N → ad1 i = ad i) → mE k ad1 (N + 1) A s → mI k ad1 (N + 1) (va_up g N (.inl (k.2.1.2.1, n, .inr (.inr (.inr (.inr (fun _ => none))))))) A s H1 locs → W p l e R s m args below meth c H1 locs c1 s1 Q (F0 m (pc + 3) ls (.ref (ad1 N) :: rest))) : W p l e R s m args below meth c H locs cells slots Q (F0 m pc ls (.int (nI n) :: rest)) := by
  subst h1; subst h2
  refine va_newq (D := k.1) (cl := vwCl) (tys := mTys k) hx hb hown hclink hao hE.1.1 hI.1 (mw_D hE.2.1 hE.2.2.1) hI.2 hE.2.2.2 (nI_pos (by omega)) (nI_clamp (by omega)) (by omega) hcells hslots hdg (fun q cA H1 hK hP hD hS => ?_)
  obtain ⟨kA1, cp1, -, -, -, e1⟩ := (hK.2 4 (cA, .object "TapePrinter$Row") rfl).2
  obtain ⟨kA2, cp2, -, -, -, e2⟩ := (hE.1.1.2 1 (k.2.1.2.1, .object "TapePrinter$Row") rfl).2
  have e3 : cA = k.2.1.2.1 := Option.some.inj (e1.symm.trans e2)
  subst e3
  obtain ⟨h1, h2⟩ := m_grow hE hP hD
  have h3 := kk (va_up ad N q) H1 (fun i hi => va_up_ne _ _ (by omega)) h2 ⟨h1, hS⟩
  rw [va_up_self] at h3
  exact h3
theorem m_astq (hx : p.tables.exec = Jvm.exec) (hb : c.code = cc) (hE : mE k ad N A s) (hI : mI k ad N g A s H locs) (i iv : Nat) (hi : i < N) (hiv : iv < N) {n : Nat} {f : Nat → Option Nat} (he : g i = .inl (k.2.1.2.1, n, .inr (.inr (.inr (.inr f))))) {vs : List Value} (hv : g iv = .inr (0, vs)) {j : Nat} (hj : j < n) (hn : n < 2147483648) (hdg : decode cc pc = .ok (.aastore, 1))
    (kk : ∀ (H : Heap) (locs : List Loc), mI k ad N (va_up g i (.inl (k.2.1.2.1, n, .inr (.inr (.inr (.inr (va_up f j (some (ad iv))))))))) A s H locs → W p l e R s m args below meth c H locs cells slots Q (F0 m (pc + 1) ls rest)) : W p l e R s m args below meth c H locs cells slots Q (F0 m pc ls (.ref (ad iv) :: .int (nI j) :: .ref (ad i) :: rest)) :=
  va_astq (D := k.1) (cl := vwCl) (r := ("TapePrinter$Row", TX0, 2)) (vs := vs) hx hb hE.1.1 hI.1 (mw_D hE.2.1 hE.2.2.1) hI.2 i 1 iv 0 (mw_at' hi he) rfl (mw_at' hiv hv) rfl (vp_in_nI hj hn) hdg (fun H1 locs1 hP _ hS => kk H1 locs1 ⟨by rw [mw_set hi, nI_clamp (by omega)] at hP; exact hP, hS⟩)
theorem m_nret (hx : p.tables.exec = Jvm.exec) (hb : c.code = cc) (hr : meth.sig.returnType = none) (hlocks : meth.locks = false) {ad0 : Nat → Nat} {N0 : Nat} (hNN : N0 ≤ N) (hE : mE k ad N (mA ad0 N0 s.heap.size) s) (hI : mI k ad N g (mA ad0 N0 s.heap.size) s H locs) {post : (Nat → Nat) → (Nat → va_E) → Prop} (hag : ∀ i, i < N0 → ad i = ad0 i) (hp : post ad g) (hdg : decode cc pc = .ok (.return_, 1)) :
    W p l e R s m args below meth c H locs cells slots (MQ below (va_Qv (S := mNu) (fun u => (∀ i, i < N0 → u.1 i = ad0 i) ∧ post u.1 u.2) (mBn k N0 N s.heap.size) (mA ad0 N0 s.heap.size)) args s cells slots (mA ad0 N0 s.heap.size)) (F0 m pc ls []) := by
  refine W.vret hx hb hr (fun t ht hW => ⟨⟨(ad, g), rfl, ⟨hag, hp⟩, by show va_P k.1 vwCl (mw ad N g) t.heap; rw [ht]; exact hI.1, hE.2.1, fun i h1 h2 => ?_⟩, hI.2.F ht⟩) hI.2.2.2 hdg hlocks
  rcases hE.2.2.1 i h2 with ⟨j, hj, e1⟩ | h
  · have e2 := hE.2.1 j i (by omega) h2 ((hag j hj).trans e1)
    omega
  · exact h
variable {y : MethodName} {bytes : ByteArray} {maxL nL n index N' mc ms : Nat} {ws : List Cond} {rm : Room} {Ts : List Cond} {own : String} {As : List Value} {st0 : List Value}
theorem m_preN (hao : va_AO "TapePrinter$Row" s) (hE : mE k ad N A s) (hI : mI k ad N g A s H locs) : PreS s H (mPn k ad N g H.size As) As :=
  ⟨mPn.blind, fun U hU hW => ⟨rfl, ⟨by rw [hU], mK.call hE.1 hI.2 (mA_sub hE hI) hU hW, by rw [hU]; exact hI.1, hE.2.1⟩, va_AO.moved hW.alike hao⟩⟩
theorem m_callN (hfix : CallFix p m c cc nL s args Ts own) (hao : va_AO "TapePrinter$Row" s) (hE : mE k ad N A s) (hI : mI k ad N g A s H locs) {post : (Nat → Nat) → (Nat → va_E) → Prop} {i : Nat} (hM : mCn k l y ws rm ad N g H.size N' mc ms (.ref (ad i) :: As) post) (cw : CallB R s args own index y bytes maxL none ws rm mc ms n ∧ y.name = "<init>" ∧ (Cond.instanceMethod y).before args s = true)
    (hn : As.length = n) (hsize : ls.size = nL) (hst : st0 = As.reverse ++ .ref (ad i) :: rest) (hW : (rest.map fun v => v.category).sum ≤ 8) (hdg : decode cc pc = .ok (.invokespecial index, 3)) (h1 : cells + mc = c1) (h2 : slots + ms = s1) (hf : c1 ≤ R.cells ∧ s1 ≤ R.slots)
    (kk : ∀ (ad1 : Nat → Nat) (g1 : Nat → va_E) (H1 : Heap) (locs1 : List Loc), (∀ i, i < N → ad1 i = ad i) → post ad1 g1 → mE k ad1 N' A s → mI k ad1 N' g1 A s H1 locs1 → W p l e R s m args below meth c H1 locs1 c1 s1 Q (F0 m (pc + 3) ls rest)) : W p l e R s m args below meth c H locs cells slots Q (F0 m pc ls st0) := by
  subst h1; subst h2
  refine va_callv (va_runI (As := As) (rest := rest) hfix hM cw (m_preN hao hE hI) rfl hn hsize hst (lv_room hW) hdg hf) hI.2 (fun q _ h => mA_sub hE hI q h) (mA_sub hE hI) (fun u t H1 locs1 ht hvm hp hB hz hk hS => ?_)
  obtain ⟨hB1, hB2, hB3⟩ := hB
  refine kk u.1 u.2 H1 locs1 hp.1 hp.2 ⟨hE.1, hB2, fun j hj => ?_, hE.2.2.2⟩ ⟨by rw [← ht]; exact hB1, hS⟩
  by_cases h : j < N
  · rw [hp.1 j h]; exact hE.2.2.1 j h
  · exact hE.2.2.2 _ (Nat.le_trans hI.2.1 (hB3 j (by omega) hj))
/-- a loop whose room grows -/
theorem m_loopG {σ : Type} (P : σ → Heap → List Loc → Array Slot → Prop) (μ cf sf : σ → Nat) (x0 : σ) (h0 : P x0 H locs ls)
    (step : ∀ x : σ, (∀ y : σ, μ y < μ x → ∀ (H : Heap) (locs : List Loc) (ls : Array Slot), P y H locs ls → W p l e R s m args below meth c H locs (cf y) (sf y) Q (F0 m pc ls [])) →
      ∀ (H : Heap) (locs : List Loc) (ls : Array Slot), P x H locs ls → W p l e R s m args below meth c H locs (cf x) (sf x) Q (F0 m pc ls [])) :
    W p l e R s m args below meth c H locs (cf x0) (sf x0) Q (F0 m pc ls []) := by
  have key : ∀ (n : Nat) (x : σ), μ x < n → ∀ (H : Heap) (locs : List Loc) (ls : Array Slot), P x H locs ls → W p l e R s m args below meth c H locs (cf x) (sf x) Q (F0 m pc ls []) := by
    intro n
    induction n with
    | zero => intro x hx; exact absurd hx (Nat.not_lt_zero _)
    | succ n ih => intro x hx; exact step x (fun y hlt => ih y (by omega))
  exact key (μ x0 + 1) x0 (Nat.lt_succ_self _) H locs ls h0
end MN
theorem upd_c (x : Int32) (j : Nat) : upd (fun _ => x) j x = fun _ => x := by
  funext i
  unfold upd
  split <;> rfl
theorem bI_vn (b : Bool) : vp_nar .boolean (bI b) = bI b := by cases b <;> rfl
theorem cell_fn {cA : ClassId} {n : Nat} {f f' : Nat → Int32} (h : ∀ j, j < n → f j = f' j) : vp_cell cA (n, .inl f') = vp_cell cA (n, .inl f) := by
  have e1 : (fun j : Fin n => Value.int (f' j.val)) = fun j => Value.int (f j.val) := funext fun j => by rw [h j.val j.isLt]
  rw [vp_cell_i, vp_cell_i]
  unfold arrV
  rw [e1]
theorem cell_fq {cA : ClassId} {n : Nat} {f f' : Nat → Option Nat} (h : ∀ j, j < n → f j = f' j) : vp_cell cA (n, .inr (.inr (.inr (.inr f')))) = vp_cell cA (n, .inr (.inr (.inr (.inr f)))) := by
  have e1 : (fun j : Fin n => va_rf (f' j.val)) = fun j => va_rf (f j.val) := funext fun j => by rw [h j.val j.isLt]
  rw [vp_cell_q, vp_cell_q]
  unfold arrV
  rw [e1]
theorem asg_self (vm : Vm) (a : ClassId) : vm.assignable a a = true := by
  show vm.assignableAux (255 + 1) a a = true
  rw [Vm.assignableAux, beq_self_eq_true]
  rfl
theorem two_s : (FieldType.array .int).toString = "[I" := by decide
abbrev mU : Type := (Nat → Nat) × Nat × (Nat → va_E)
def mBg (k : mC) (A : Nat → Prop) (u : mU) (t : State) : Prop := va_P k.1 vwCl (mw u.1 u.2.1 u.2.2) t.heap ∧ mJ u.1 u.2.1 ∧ ∀ i, i < u.2.1 → A (u.1 i)
/-- the world's addresses stay -/
def mRi (k : mC) (l : Launch) (y : MethodName) (ws : List Cond) (rm : Room) (ad : Nat → Nat) (N : Nat) (g : Nat → va_E) (sz mc ms : Nat) (av : List Value) (post : Int32 → (Nat → va_E) → Prop) : Prop :=
  Met l y ws rm (mPc k ad N g sz av) (va_Qi post (mB k ad N) (mA ad N sz)) mc ms (mA ad N sz)
/-- the world moves: an int, a reference, nothing is answered -/
def mGi (k : mC) (l : Launch) (y : MethodName) (ws : List Cond) (rm : Room) (ad : Nat → Nat) (N : Nat) (g : Nat → va_E) (sz mc ms : Nat) (av : List Value) (post : Int32 → (Nat → Nat) → Nat → (Nat → va_E) → Prop) : Prop :=
  Met l y ws rm (mPc k ad N g sz av) (va_Qi (S := mU) (fun r u => post r u.1 u.2.1 u.2.2) (mBg k (mA ad N sz)) (mA ad N sz)) mc ms (mA ad N sz)
def mGq (k : mC) (l : Launch) (y : MethodName) (ws : List Cond) (rm : Room) (ad : Nat → Nat) (N : Nat) (g : Nat → va_E) (sz mc ms : Nat) (av : List Value) (post : Option Nat → (Nat → Nat) → Nat → (Nat → va_E) → Prop) : Prop :=
  Met l y ws rm (mPc k ad N g sz av) (va_Qq (S := mU) (fun r u => post r u.1 u.2.1 u.2.2) (mBg k (mA ad N sz)) (mA ad N sz)) mc ms (mA ad N sz)
def mGv (k : mC) (l : Launch) (y : MethodName) (ws : List Cond) (rm : Room) (ad : Nat → Nat) (N : Nat) (g : Nat → va_E) (sz mc ms : Nat) (av : List Value) (post : (Nat → Nat) → Nat → (Nat → va_E) → Prop) : Prop :=
  Met l y ws rm (mPc k ad N g sz av) (va_Qv (S := mU) (fun u => post u.1 u.2.1 u.2.2) (mBg k (mA ad N sz)) (mA ad N sz)) mc ms (mA ad N sz)
theorem mOfG {k : mC} {l : Launch} {y : MethodName} {ws ws' : List Cond} {rm : Room} {ad : Nat → Nat} {N : Nat} {g : Nat → va_E} {sz mc ms : Nat} {av : List Value} {cc : ByteArray} {maxL : Nat} {ret : Option FieldType} {Qc : Nat → Array Value → State → Outcome → State → Prop}
    (hy : plainName y.cls = true) (hw : ws = Cond.code y cc maxL ret :: ws') (hav : (lg_sl av).length ≤ maxL)
    (body : ∀ (p : Program) (e : Env) (s : State) (m : MethodId) (below : List Frame) (meth : Method) (c : Code), p.tables.exec = Jvm.exec → c.code = cc → meth.sig.returnType = ret → (∀ w ∈ ws, w.before av.toArray s = true) → s.vm.findClass y.cls = some m.cls → meth.locks = false → c.maxLocals = maxL → meth.name = y.name → ∀ (H : Heap) (locs : List Loc), H = s.heap →
      mE k ad N (mA ad N s.heap.size) s → mI k ad N g (mA ad N s.heap.size) s H locs → ∀ ls : Array Slot, lv_has ls maxL (lv_args 0 av) →
      W p l e rm s m av.toArray below meth c H locs 0 0 (MQ below (Qc s.heap.size) av.toArray s mc ms (mA ad N s.heap.size)) (F0 m 0 ls [])) :
    Met l y ws rm (mPc k ad N g sz av) (Qc sz) mc ms (mA ad N sz) := by
  refine Met.ofW (cc := cc) (maxL := maxL) (ret := ret) hy hw ?_
  intro p e s m args below meth c s₁ B hml hv
  obtain ⟨rfl, hsz, hK, hP, hJ⟩ := hv
  subst hsz
  rw [lg_entry_eq]
  exact body p e s m below meth c B.exec B.bytes B.returns (atoms_spec (ws := ws) B.pre) (findClass_of_methodNamed B.named) B.notSynchronized hml (name_of_methodNamed B.named B.method).1 _ [] rfl ⟨hK, hJ, fun i hi => Or.inl ⟨i, hi, rfl⟩, fun q hq => Or.inr hq⟩ ⟨hP, va_S.rf⟩ _ (lv_entry av hav)
/-- with the script at hand -/
def mPs (k : mC) (ad : Nat → Nat) (N : Nat) (g : Nat → va_E) (sz b L : Nat) (xs : Nat → Int32) (av : List Value) : Array Value → State → Prop := va_Pc av (fun U => (U.heap.size = sz ∧ mK k (mA ad N sz) U U.heap ∧ va_P k.1 vwCl (mw ad N g) U.heap ∧ mJ ad N) ∧ va_X b L xs U U.heap ∧ b < sz ∧ ¬ mA ad N sz b)
theorem mPs.blind {k : mC} {ad : Nat → Nat} {N : Nat} {g : Nat → va_E} {sz b L : Nat} {xs : Nat → Int32} {av : List Value} : FrameBlind (mPs k ad N g sz b L xs av) := fun a U gg mk h => ⟨h.1, ⟨h.2.1.1, mK.blind h.2.1.2.1, h.2.1.2.2.1, h.2.1.2.2.2⟩, va_X.moved (u := U) (U := U.calling gg mk a) (State.WarmedH.refl U).alike h.2.2.1, h.2.2.2⟩
theorem mOfS {k : mC} {l : Launch} {y : MethodName} {ws ws' : List Cond} {rm : Room} {ad : Nat → Nat} {N : Nat} {g : Nat → va_E} {sz mc ms b L : Nat} {xs : Nat → Int32} {av : List Value} {cc : ByteArray} {maxL : Nat} {ret : Option FieldType} {Qc : Nat → Array Value → State → Outcome → State → Prop}
    (hy : plainName y.cls = true) (hw : ws = Cond.code y cc maxL ret :: ws') (hav : (lg_sl av).length ≤ maxL)
    (body : ∀ (p : Program) (e : Env) (s : State) (m : MethodId) (below : List Frame) (meth : Method) (c : Code), p.tables.exec = Jvm.exec → c.code = cc → meth.sig.returnType = ret → (∀ w ∈ ws, w.before av.toArray s = true) → s.vm.findClass y.cls = some m.cls → meth.locks = false → c.maxLocals = maxL → va_X b L xs s s.heap → b < s.heap.size → ¬ mA ad N s.heap.size b → ∀ (H : Heap) (locs : List Loc), H = s.heap →
      mE k ad N (mA ad N s.heap.size) s → mI k ad N g (mA ad N s.heap.size) s H locs → ∀ ls : Array Slot, lv_has ls maxL (lv_args 0 av) →
      W p l e rm s m av.toArray below meth c H locs 0 0 (MQ below (Qc s.heap.size) av.toArray s mc ms (mA ad N s.heap.size)) (F0 m 0 ls [])) :
    Met l y ws rm (mPs k ad N g sz b L xs av) (Qc sz) mc ms (mA ad N sz) := by
  refine Met.ofW (cc := cc) (maxL := maxL) (ret := ret) hy hw ?_
  intro p e s m args below meth c s₁ B hml hv
  obtain ⟨rfl, ⟨hsz, hK, hP, hJ⟩, hX, hbl, hbA⟩ := hv
  subst hsz
  rw [lg_entry_eq]
  exact body p e s m below meth c B.exec B.bytes B.returns (atoms_spec (ws := ws) B.pre) (findClass_of_methodNamed B.named) B.notSynchronized hml hX hbl hbA _ [] rfl ⟨hK, hJ, fun i hi => Or.inl ⟨i, hi, rfl⟩, fun q hq => Or.inr hq⟩ ⟨hP, va_S.rf⟩ _ (lv_entry av hav)
section MG
variable {p : Program} {l : Launch} {e : Env} {R : Room} {s : State} {m : MethodId} {args : Array Value} {below : List Frame} {meth : Method} {c : Code} {H : Heap} {locs : List Loc} {cells slots c1 s1 : Nat} {Q : State → Prop}
variable {cc : ByteArray} {pc : Nat} {ls : Array Slot} {rest : List Value} {k : mC} {ad : Nat → Nat} {N : Nat} {g : Nat → va_E} {A : Nat → Prop}
theorem m_ge {ad1 : Nat → Nat} {N1 : Nat} (hE : mE k ad N A s) (hI : mI k ad N g A s H locs) (hJ : mJ ad1 N1) (hA : ∀ i, i < N1 → mA ad N H.size (ad1 i)) : mE k ad1 N1 A s := ⟨hE.1, hJ, fun i hi => mA_sub hE hI _ (hA i hi), hE.2.2.2⟩
/-- the cells take new roles; what has none is dropped -/
theorem m_re (ad' : Nat → Nat) (N' : Nat) (g' : Nat → va_E) (rh : Nat → Nat) (hE : mE k ad N A s) (hI : mI k ad N g A s H locs) (h : ∀ i, i < N' → rh i < N ∧ ad' i = ad (rh i) ∧ g' i = g (rh i)) (hj : ∀ i j, i < N' → j < N' → rh i = rh j → i = j) : mE k ad' N' A s ∧ mI k ad' N' g' A s H locs := by
  refine ⟨⟨hE.1, fun i j hi hj' e9 => hj i j hi hj' (hE.2.1 _ _ (h i hi).1 (h j hj').1 ?_), fun i hi => ?_, hE.2.2.2⟩, hI.1.by rh (fun i q hq => ?_), hI.2⟩
  · rw [← (h i hi).2.1, ← (h j hj').2.1]; exact e9
  · rw [(h i hi).2.1]; exact hE.2.2.1 _ (h i hi).1
  · obtain ⟨h1, rfl⟩ := mw_lt hq
    rw [mw_at (h i h1).1, (h i h1).2.1, (h i h1).2.2]
theorem m_drop {ad1 : Nat → Nat} {N1 : Nat} {g1 : Nat → va_E} (hE : mE k ad1 N1 A s) (hI : mI k ad1 N1 g1 A s H locs) (hN : N ≤ N1) (ha : ∀ i, i < N → ad1 i = ad i) (hg : ∀ i, i < N → g1 i = g i) : mE k ad N A s ∧ mI k ad N g A s H locs :=
  m_re ad N g (fun i => i) hE hI (fun i hi => ⟨by omega, (ha i hi).symm, (hg i hi).symm⟩) (fun i j _ _ h => h)
theorem m_fni (hI : mI k ad N g A s H locs) (i : Nat) (hi : i < N) {cA : ClassId} {n : Nat} {f : Nat → Int32} (f' : Nat → Int32) (he : g i = .inl (cA, n, .inl f)) (hf : ∀ j, j < n → f j = f' j) : mI k ad N (va_up g i (.inl (cA, n, .inl f'))) A s H locs := by
  refine ⟨fun j q hq => ?_, hI.2⟩
  obtain ⟨hj, rfl⟩ := mw_lt hq
  by_cases e1 : j = i
  · subst e1
    have h1 := hI.1 j _ (mw_at hi)
    rw [he] at h1
    rw [va_up_self]
    show H[ad j]? = some (vp_cell cA (n, .inl f'))
    rw [cell_fn hf]
    exact h1
  · rw [va_up_ne _ _ e1]
    exact hI.1 j _ (mw_at hj)
theorem m_fnq (hI : mI k ad N g A s H locs) (i : Nat) (hi : i < N) {cA : ClassId} {n : Nat} {f : Nat → Option Nat} (f' : Nat → Option Nat) (he : g i = .inl (cA, n, .inr (.inr (.inr (.inr f))))) (hf : ∀ j, j < n → f j = f' j) : mI k ad N (va_up g i (.inl (cA, n, .inr (.inr (.inr (.inr f')))))) A s H locs := by
  refine ⟨fun j q hq => ?_, hI.2⟩
  obtain ⟨hj, rfl⟩ := mw_lt hq
  by_cases e1 : j = i
  · subst e1
    have h1 := hI.1 j _ (mw_at hi)
    rw [he] at h1
    rw [va_up_self]
    show H[ad j]? = some (vp_cell cA (n, .inr (.inr (.inr (.inr f')))))
    rw [cell_fq hf]
    exact h1
  · rw [va_up_ne _ _ e1]
    exact hI.1 j _ (mw_at hj)
-- boolean arrays
theorem m_newz (hx : p.tables.exec = Jvm.exec) (hb : c.code = cc) (harr : (Cond.arrayClass .boolean).before args s = true) (hE : mE k ad N A s) (hI : mI k ad N g A s H locs) {n : Nat} (hn : n ≤ 2000) (h1 : cells + 1 = c1) (h2 : slots + n = s1) (hcells : c1 ≤ R.cells) (hslots : s1 ≤ R.slots) (hdg : decode cc pc = .ok (.newarray .boolean, 2))
    (kk : ∀ (ad1 : Nat → Nat) (H1 : Heap), (∀ i, i < N → ad1 i = ad i) → mE k ad1 (N + 1) A s → mI k ad1 (N + 1) (va_up g N (.inl (k.2.1.2.2.1, n, .inl (fun _ => nI 0)))) A s H1 locs → W p l e R s m args below meth c H1 locs c1 s1 Q (F0 m (pc + 2) ls (.ref (ad1 N) :: rest))) : W p l e R s m args below meth c H locs cells slots Q (F0 m pc ls (.int (nI n) :: rest)) := by
  subst h1; subst h2
  have hbz : n * componentBytes .boolean ≤ 536870912 := Nat.le_trans (Nat.mul_le_mul_right 1 hn) (by decide)
  refine va_newa (D := k.1) (cl := vwCl) (tys := mTys k) (atype := .boolean) (ty := .boolean) (N' := n) (a0 := (n, .inl (fun _ => nI 0))) hx hb harr rfl hE.1.1 hI.1 (mw_D hE.2.1 hE.2.2.1) hI.2 hE.2.2.2 (fun cA => m_zi cA n) (nI_pos (by omega)) (nI_clamp (by omega)) hbz hcells hslots hdg (fun q cA H1 hK hP hD hS => ?_)
  have e1 : s.vm.findClass ("[" ++ FieldType.boolean.toString) = some cA := (hK.2 4 (cA, .boolean) rfl).2
  have e2 : s.vm.findClass ("[" ++ FieldType.boolean.toString) = some k.2.1.2.2.1 := (hE.1.1.2 2 (k.2.1.2.2.1, .boolean) rfl).2
  have e3 : cA = k.2.1.2.2.1 := Option.some.inj (e1.symm.trans e2)
  subst e3
  obtain ⟨h1, h2⟩ := m_grow hE hP hD
  have h3 := kk (va_up ad N q) H1 (fun i hi => va_up_ne _ _ (by omega)) h2 ⟨h1, hS⟩
  rw [va_up_self] at h3
  exact h3
theorem m_zald (hx : p.tables.exec = Jvm.exec) (hb : c.code = cc) (hE : mE k ad N A s) (hI : mI k ad N g A s H locs) (i : Nat) (hi : i < N) {n : Nat} {f : Nat → Int32} (he : g i = .inl (k.2.1.2.2.1, n, .inl f)) {j : Nat} (hj : j < n) (hn : n < 2147483648) (hdg : decode cc pc = .ok (.baload, 1))
    (kk : W p l e R s m args below meth c H locs cells slots Q (F0 m (pc + 1) ls (.int (f j) :: rest))) : W p l e R s m args below meth c H locs cells slots Q (F0 m pc ls (.int (nI j) :: .ref (ad i) :: rest)) :=
  va_zald (D := k.1) (cl := vwCl) hx hb hE.1.1 hI.1 i 2 (mw_at' hi he) rfl (vp_in_nI hj hn) hdg (by rw [nI_clamp (by omega)]; exact kk)
theorem m_zast (hx : p.tables.exec = Jvm.exec) (hb : c.code = cc) (hE : mE k ad N A s) (hI : mI k ad N g A s H locs) (i : Nat) (hi : i < N) {n : Nat} {f : Nat → Int32} (he : g i = .inl (k.2.1.2.2.1, n, .inl f)) {j : Nat} {b9 : Bool} (hj : j < n) (hn : n < 2147483648) (hdg : decode cc pc = .ok (.bastore, 1))
    (kk : ∀ (H : Heap) (locs : List Loc), mI k ad N (va_up g i (.inl (k.2.1.2.2.1, n, .inl (upd f j (bI b9))))) A s H locs → W p l e R s m args below meth c H locs cells slots Q (F0 m (pc + 1) ls rest)) : W p l e R s m args below meth c H locs cells slots Q (F0 m pc ls (.int (bI b9) :: .int (nI j) :: .ref (ad i) :: rest)) :=
  va_zast (D := k.1) (cl := vwCl) hx hb hE.1.1 hI.1 (mw_D hE.2.1 hE.2.2.1) hI.2 i 2 (mw_at' hi he) rfl (vp_in_nI hj hn) hdg (fun H1 locs1 hP _ hS => kk H1 locs1 ⟨by rw [mw_set hi, nI_clamp (by omega), bI_vn] at hP; exact hP, hS⟩)
-- arrays of int arrays
theorem m_alen2 (hx : p.tables.exec = Jvm.exec) (hb : c.code = cc) (hE : mE k ad N A s) (hI : mI k ad N g A s H locs) (i : Nat) (hi : i < N) {n : Nat} {f : Nat → Option Nat} (he : g i = .inl (k.2.1.2.2.2, n, .inr (.inr (.inr (.inr f))))) (hdg : decode cc pc = .ok (.arraylength, 1))
    (kk : W p l e R s m args below meth c H locs cells slots Q (F0 m (pc + 1) ls (.int (nI n) :: rest))) : W p l e R s m args below meth c H locs cells slots Q (F0 m pc ls (.ref (ad i) :: rest)) :=
  va_alen (D := k.1) (cl := vwCl) hx hb hE.1.1 hI.1 i 3 (mw_at' hi he) rfl rfl hdg kk
theorem m_ald2 (hx : p.tables.exec = Jvm.exec) (hb : c.code = cc) (hE : mE k ad N A s) (hI : mI k ad N g A s H locs) (i : Nat) (hi : i < N) {n : Nat} {f : Nat → Option Nat} (he : g i = .inl (k.2.1.2.2.2, n, .inr (.inr (.inr (.inr f))))) {j : Nat} (hj : j < n) (hn : n < 2147483648) (hdg : decode cc pc = .ok (.aaload, 1))
    (kk : W p l e R s m args below meth c H locs cells slots Q (F0 m (pc + 1) ls (va_rf (f j) :: rest))) : W p l e R s m args below meth c H locs cells slots Q (F0 m pc ls (.int (nI j) :: .ref (ad i) :: rest)) := by
  have hin : vp_in (nI j) n := vp_in_nI hj hn
  exact W.aald (v := va_rf (f j)) (ty := .array .int) hx hb (hI.1 i _ (mw_at' hi he)) ((hE.1.1.2 3 (k.2.1.2.2.2, .array .int) rfl).1 n (fun j => va_rf (f j))) rfl (fun q => by cases q) (by show ¬ (nI j < 0 ∨ (arrV _ _ _).slots.size ≤ _); rw [arrV_size]; exact hin) (by show (arrV _ _ _).slots[_]? = _; rw [nI_clamp (by omega), arrV_read _ _ hj]) rfl rfl hdg kk
theorem m_ast2 (hx : p.tables.exec = Jvm.exec) (hb : c.code = cc) (hE : mE k ad N A s) (hI : mI k ad N g A s H locs) (i iv : Nat) (hi : i < N) (hiv : iv < N) {n : Nat} {f : Nat → Option Nat} (he : g i = .inl (k.2.1.2.2.2, n, .inr (.inr (.inr (.inr f))))) {nv : Nat} {fv : Nat → Int32} (hv : g iv = .inl (k.2.1.1, nv, .inl fv)) {j : Nat} (hj : j < n) (hn : n < 2147483648) (hdg : decode cc pc = .ok (.aastore, 1))
    (kk : ∀ (H : Heap) (locs : List Loc), mI k ad N (va_up g i (.inl (k.2.1.2.2.2, n, .inr (.inr (.inr (.inr (va_up f j (some (ad iv))))))))) A s H locs → W p l e R s m args below meth c H locs cells slots Q (F0 m (pc + 1) ls rest)) : W p l e R s m args below meth c H locs cells slots Q (F0 m pc ls (.ref (ad iv) :: .int (nI j) :: .ref (ad i) :: rest)) := by
  have hin : vp_in (nI j) n := vp_in_nI hj hn
  have h0 : ¬ nI j < 0 := fun q => hin (Or.inl q)
  obtain ⟨comp, cO, kO, h1, -, h3, h4, h5⟩ := arrayOverA_spec (t := .int) (first := s) (o := none) (idx := []) hE.1.2.2.2.2.2.2.2.1
  have r3 : s.vm.findClass ("[" ++ (FieldType.array .int).toString) = some k.2.1.2.2.2 := (hE.1.1.2 3 (k.2.1.2.2.2, .array .int) rfl).2
  have r0 : s.vm.findClass ("[" ++ FieldType.int.toString) = some k.2.1.1 := (hE.1.1.2 0 (k.2.1.1, .int) rfl).2
  have e1 : cO = k.2.1.2.2.2 := Option.some.inj (h5.symm.trans r3)
  have e2 : comp = k.2.1.1 := Option.some.inj (h1.symm.trans r0)
  subst e1
  subst e2
  obtain ⟨-, kI, hkI, -⟩ := (hE.1.1.2 0 (k.2.1.1, .int) rfl).1 nv (fun j => .int (fv j))
  refine W.aast hx hb (hI.1 i _ (mw_at' hi he)) (fun q h => by cases h) (fun h => by cases h) h3 h4 rfl hkI ⟨h0, by show _ < (arrV _ _ _).slots.size; rw [arrV_size, nI_clamp (by omega)]; exact hj⟩ (hI.1 iv _ (mw_at' hiv hv)) (fun q h => by cases h) hkI (asg_self s.vm k.2.1.1) rfl rfl hdg fun H1 e9 z oq => ?_
  refine kk H1 _ ⟨?_, hI.2.put z oq (hE.2.2.1 i hi)⟩
  rw [← mw_set hi]
  refine hI.1.set (mw_D hE.2.1 hE.2.2.1) (mw_at' hi he) ?_ oq
  show H1[ad i]? = some (vp_cell _ _)
  rw [e9]
  rw [vp_cell_q, vp_cell_q, arrV_store, nI_clamp (by omega)]
  congr 2
  funext q
  by_cases hq : q = j
  · subst hq
    simp [updV, va_up, va_rf]
  · simp [updV, va_up, hq]
theorem m_new2 (hx : p.tables.exec = Jvm.exec) (hb : c.code = cc) {own : String} {index : Nat} (hown : s.vm.findClass own = some m.cls) (hclink : (Cond.classLink own index "[I").before args s = true) (hE : mE k ad N A s) (hI : mI k ad N g A s H locs) {n : Nat} (hn : n ≤ 2000) (h1 : cells + 1 = c1) (h2 : slots + n = s1) (hcells : c1 ≤ R.cells) (hslots : s1 ≤ R.slots) (hdg : decode cc pc = .ok (.anewarray index, 3))
    (kk : ∀ (ad1 : Nat → Nat) (H1 : Heap), (∀ i, i < N → ad1 i = ad i) → mE k ad1 (N + 1) A s → mI k ad1 (N + 1) (va_up g N (.inl (k.2.1.2.2.2, n, .inr (.inr (.inr (.inr (fun _ => none))))))) A s H1 locs → W p l e R s m args below meth c H1 locs c1 s1 Q (F0 m (pc + 3) ls (.ref (ad1 N) :: rest))) : W p l e R s m args below meth c H locs cells slots Q (F0 m pc ls (.int (nI n) :: rest)) := by
  subst h1; subst h2
  have hcn : (nI n).toNatClampNeg = n := nI_clamp (by omega)
  have hclink' : (Cond.classLink own index (FieldType.array .int).toString).before args s = true := by rw [two_s]; exact hclink
  refine W.anewA (t := .int) hx hb hown hclink' (over_moved (Vm.Alike.refl _) hE.1.2.2.2.2.2.2.2.1) rfl hdg rfl (nI_pos (by omega)) (by rw [hcn]; omega) hcells (by rw [hcn]; exact hslots) fun cA kA comp f1 f2 f3 f4 => ?_
  have r3 : s.vm.findClass ("[" ++ (FieldType.array .int).toString) = some k.2.1.2.2.2 := (hE.1.1.2 3 (k.2.1.2.2.2, .array .int) rfl).2
  have e0 : cA = k.2.1.2.2.2 := Option.some.inj (f1.symm.trans r3)
  rw [hcn]
  generalize hH1 : H.push ({ cls := cA, slots := Array.replicate n .null, vm := .none } : Cell) = H1
  have z1 : H1.size = H.size + 1 := by rw [← hH1, Array.size_push]
  have e1 : H1[H.size]? = some (arrV cA n (fun _ => .null)) := by rw [← hH1, Array.getElem?_push_size, ← arrV_new]
  have o1 : ∀ q : Nat, q < H.size → H1[q]? = H[q]? := fun q hq => by rw [← hH1, Array.getElem?_push, if_neg (Nat.ne_of_lt hq)]
  subst e0
  have hk : ∀ (j : Nat) (x : Nat × va_E), (mw ad N g)[j]? = some x → H1[x.1]? = H[x.1]? := fun j x hx => o1 x.1 ((hI.1 j x hx).lt)
  have hP : va_P k.1 vwCl (mw ad N g ++ [(H.size, .inl (k.2.1.2.2.2, n, .inr (.inr (.inr (.inr (fun _ => none))))))]) H1 := (hI.1.kept hk).app (fun j x hx => by
    have hz : j < 1 := (List.getElem?_eq_some_iff.mp hx).1
    rw [show j = 0 by omega] at hx
    cases hx
    show H1[H.size]? = some (vp_cell _ _)
    rw [vp_cell_q]
    exact e1)
  have hD := (mw_D (g := g) hE.2.1 hE.2.2.1).push (e := .inl (k.2.1.2.2.2, n, .inr (.inr (.inr (.inr (fun _ => none)))))) hI.1 rfl (hE.2.2.2 _ hI.2.1)
  obtain ⟨h1, h2⟩ := m_grow hE hP hD
  have h3 := kk (va_up ad N H.size) H1 (fun i hi => va_up_ne _ _ (by omega)) h2 ⟨h1, Nat.le_trans hI.2.1 (by omega), fun x h1 h2 => (o1 x (Nat.lt_of_lt_of_le h1 hI.2.1)).trans (hI.2.2.1 x h1 h2), hI.2.2.2⟩
  rw [va_up_self] at h3
  exact h3
-- ends
theorem m_riret {mc ms : Nat} (hx : p.tables.exec = Jvm.exec) (hb : c.code = cc) (hr : meth.sig.returnType = some .int) (hlocks : meth.locks = false) (hI : mI k ad N g A s H locs) {post : Int32 → (Nat → va_E) → Prop} {v : Int32} (hp : post v g) (h1 : cells ≤ mc) (h2 : slots ≤ ms) (hdg : decode cc pc = .ok (.ireturn, 1)) :
    W p l e R s m args below meth c H locs cells slots (MQ below (va_Qi post (mB k ad N) A) args s mc ms A) (F0 m pc ls [.int v]) := W.widen h1 h2 (m_iret hx hb hr hlocks hI hp hdg)
theorem m_giret {mc ms : Nat} (hx : p.tables.exec = Jvm.exec) (hb : c.code = cc) (hr : meth.sig.returnType = some .int) (hlocks : meth.locks = false) (hE : mE k ad N A s) (hI : mI k ad N g A s H locs) {post : Int32 → (Nat → Nat) → Nat → (Nat → va_E) → Prop} {v : Int32} (hp : post v ad N g) (h1 : cells ≤ mc) (h2 : slots ≤ ms) (hdg : decode cc pc = .ok (.ireturn, 1)) :
    W p l e R s m args below meth c H locs cells slots (MQ below (va_Qi (S := mU) (fun r u => post r u.1 u.2.1 u.2.2) (mBg k A) A) args s mc ms A) (F0 m pc ls [.int v]) :=
  W.widen h1 h2 (W.iret (v := v) hx hb hr (fun t ht hW => ⟨⟨v, (ad, N, g), rfl, hp, by show va_P k.1 vwCl (mw ad N g) t.heap; rw [ht]; exact hI.1, hE.2.1, hE.2.2.1⟩, hI.2.F ht⟩) hI.2.2.2 hdg hlocks)
theorem m_gzret {mc ms : Nat} (hx : p.tables.exec = Jvm.exec) (hb : c.code = cc) (hr : meth.sig.returnType = some .boolean) (hlocks : meth.locks = false) (hE : mE k ad N A s) (hI : mI k ad N g A s H locs) {post : Int32 → (Nat → Nat) → Nat → (Nat → va_E) → Prop} {v : Bool} (hp : post (bI v) ad N g) (h1 : cells ≤ mc) (h2 : slots ≤ ms) (hdg : decode cc pc = .ok (.ireturn, 1)) :
    W p l e R s m args below meth c H locs cells slots (MQ below (va_Qi (S := mU) (fun r u => post r u.1 u.2.1 u.2.2) (mBg k A) A) args s mc ms A) (F0 m pc ls [.int (bI v)]) :=
  W.widen h1 h2 (W.zret (v := bI v) hx hb hr (bI_nar v) (fun t ht hW => ⟨⟨bI v, (ad, N, g), rfl, hp, by show va_P k.1 vwCl (mw ad N g) t.heap; rw [ht]; exact hI.1, hE.2.1, hE.2.2.1⟩, hI.2.F ht⟩) hI.2.2.2 hdg hlocks)
theorem m_gqret {mc ms : Nat} {rt : FieldType} (hx : p.tables.exec = Jvm.exec) (hb : c.code = cc) (hr : meth.sig.returnType = some rt) (hrt : (∃ n, rt = .object n) ∨ ∃ t, rt = .array t) (hlocks : meth.locks = false) (hE : mE k ad N A s) (hI : mI k ad N g A s H locs) {post : Option Nat → (Nat → Nat) → Nat → (Nat → va_E) → Prop} {v : Nat} (hp : post (some v) ad N g) (h1 : cells ≤ mc) (h2 : slots ≤ ms) (hdg : decode cc pc = .ok (.areturn, 1)) :
    W p l e R s m args below meth c H locs cells slots (MQ below (va_Qq (S := mU) (fun r u => post r u.1 u.2.1 u.2.2) (mBg k A) A) args s mc ms A) (F0 m pc ls [.ref v]) :=
  W.widen h1 h2 (W.aret (v := .ref v) hx hb hr hrt (Or.inr ⟨v, rfl⟩) (fun t ht hW => ⟨⟨some v, (ad, N, g), rfl, hp, by show va_P k.1 vwCl (mw ad N g) t.heap; rw [ht]; exact hI.1, hE.2.1, hE.2.2.1⟩, hI.2.F ht⟩) hI.2.2.2 hdg hlocks)
theorem m_gvret {mc ms : Nat} (hx : p.tables.exec = Jvm.exec) (hb : c.code = cc) (hr : meth.sig.returnType = none) (hlocks : meth.locks = false) (hE : mE k ad N A s) (hI : mI k ad N g A s H locs) {post : (Nat → Nat) → Nat → (Nat → va_E) → Prop} (hp : post ad N g) (h1 : cells ≤ mc) (h2 : slots ≤ ms) (hdg : decode cc pc = .ok (.return_, 1)) :
    W p l e R s m args below meth c H locs cells slots (MQ below (va_Qv (S := mU) (fun u => post u.1 u.2.1 u.2.2) (mBg k A) A) args s mc ms A) (F0 m pc ls []) :=
  W.widen h1 h2 (W.vret hx hb hr (fun t ht hW => ⟨⟨(ad, N, g), rfl, hp, by show va_P k.1 vwCl (mw ad N g) t.heap; rw [ht]; exact hI.1, hE.2.1, hE.2.2.1⟩, hI.2.F ht⟩) hI.2.2.2 hdg hlocks)
/-- ways that meet: what they leave on the stack -/
theorem m_via (_hI : mI k ad N g A s H locs) (pc2 : Nat) (st2 : List Value) {st : List Value} (k0 : (∀ (H : Heap) (locs : List Loc), mI k ad N g A s H locs → W p l e R s m args below meth c H locs cells slots Q (F0 m pc2 ls st2)) → W p l e R s m args below meth c H locs cells slots Q (F0 m pc ls st)) (k1 : ∀ (H : Heap) (locs : List Loc), mI k ad N g A s H locs → W p l e R s m args below meth c H locs cells slots Q (F0 m pc2 ls st2)) : W p l e R s m args below meth c H locs cells slots Q (F0 m pc ls st) := k0 k1
/-- a loop: memory and locals at its head; its room grows -/
theorem m_loopC {σ : Type} (Inv : σ → Prop) (μ cf sf : σ → Nat) (gf : σ → Nat → va_E) (lf : σ → List (Nat × Value)) {nL : Nat} (x0 : σ) (h0 : Inv x0) (hI0 : mI k ad N (gf x0) A s H locs) (hl0 : lv_has ls nL (lf x0))
    (step : ∀ x : σ, Inv x → (∀ y : σ, Inv y → μ y < μ x → ∀ (H : Heap) (locs : List Loc) (ls : Array Slot), mI k ad N (gf y) A s H locs → lv_has ls nL (lf y) → W p l e R s m args below meth c H locs (cf y) (sf y) Q (F0 m pc ls [])) →
      ∀ (H : Heap) (locs : List Loc) (ls : Array Slot), mI k ad N (gf x) A s H locs → lv_has ls nL (lf x) → W p l e R s m args below meth c H locs (cf x) (sf x) Q (F0 m pc ls [])) :
    W p l e R s m args below meth c H locs (cf x0) (sf x0) Q (F0 m pc ls []) := by
  have key : ∀ (n : Nat) (x : σ), μ x < n → Inv x → ∀ (H : Heap) (locs : List Loc) (ls : Array Slot), mI k ad N (gf x) A s H locs → lv_has ls nL (lf x) → W p l e R s m args below meth c H locs (cf x) (sf x) Q (F0 m pc ls []) := by
    intro n
    induction n with
    | zero => intro x hx; exact absurd hx (Nat.not_lt_zero _)
    | succ n ih => intro x hx hi; exact step x hi (fun y hy hlt => ih y (by omega) hy)
  exact key (μ x0 + 1) x0 (Nat.lt_succ_self _) h0 H locs ls hI0 hl0
-- calls
variable {y : MethodName} {bytes : ByteArray} {maxL nL n index mc ms : Nat} {ret : Option FieldType} {ws : List Cond} {rm : Room} {Ts : List Cond} {own C : String} {As : List Value} {st0 : List Value}
theorem m_callVri (hfix : CallFix p m c cc nL s args Ts own) (hE : mE k ad N A s) (hI : mI k ad N g A s H locs) {post : Int32 → (Nat → va_E) → Prop} {i : Nat} (hM : mRi k l y ws rm ad N g H.size mc ms (.ref (ad i) :: As) post) (cw : CallW R s args own C index y bytes maxL ret ws rm mc ms n) {ci : Nat} {fs : List Value} {T : u_T} {N' : Nat} (hi : i < N) (he : g i = .inr (ci, fs)) (hc : vwCl[ci]? = some (C, T, N'))
    (hn : As.length = n) (hsize : ls.size = nL) (hst : st0 = As.reverse ++ .ref (ad i) :: rest) (hW : (rest.map fun v => v.category).sum ≤ 8) (hdg : decode cc pc = .ok (.invokevirtual index, 3)) (h1 : cells + mc = c1) (h2 : slots + ms = s1) (hf : c1 ≤ R.cells ∧ s1 ≤ R.slots)
    (kk : ∀ (r : Int32) (g : Nat → va_E) (H : Heap) (locs : List Loc), post r g → mI k ad N g A s H locs → W p l e R s m args below meth c H locs c1 s1 Q (F0 m (pc + 3) ls (.int r :: rest))) : W p l e R s m args below meth c H locs cells slots Q (F0 m pc ls st0) := by
  subst h1; subst h2
  exact va_calli (va_runV (As := As) (rest := rest) hfix hM cw (m_preV hE hI hi he hc) rfl hn hsize hst (lv_room hW) hdg hf) hI.2 (fun q _ h => mA_sub hE hI q h) (mA_sub hE hI) (fun r g' t H1 locs1 ht hvm hp hB hz hk hS => kk r g' H1 locs1 hp ⟨by rw [← ht]; exact hB, hS⟩)
theorem m_callVgi (hfix : CallFix p m c cc nL s args Ts own) (hE : mE k ad N A s) (hI : mI k ad N g A s H locs) {post : Int32 → (Nat → Nat) → Nat → (Nat → va_E) → Prop} {i : Nat} (hM : mGi k l y ws rm ad N g H.size mc ms (.ref (ad i) :: As) post) (cw : CallW R s args own C index y bytes maxL ret ws rm mc ms n) {ci : Nat} {fs : List Value} {T : u_T} {N' : Nat} (hi : i < N) (he : g i = .inr (ci, fs)) (hc : vwCl[ci]? = some (C, T, N'))
    (hn : As.length = n) (hsize : ls.size = nL) (hst : st0 = As.reverse ++ .ref (ad i) :: rest) (hW : (rest.map fun v => v.category).sum ≤ 8) (hdg : decode cc pc = .ok (.invokevirtual index, 3)) (h1 : cells + mc = c1) (h2 : slots + ms = s1) (hf : c1 ≤ R.cells ∧ s1 ≤ R.slots)
    (kk : ∀ (r : Int32) (ad1 : Nat → Nat) (N1 : Nat) (g1 : Nat → va_E) (H : Heap) (locs : List Loc), post r ad1 N1 g1 → mE k ad1 N1 A s → mI k ad1 N1 g1 A s H locs → W p l e R s m args below meth c H locs c1 s1 Q (F0 m (pc + 3) ls (.int r :: rest))) : W p l e R s m args below meth c H locs cells slots Q (F0 m pc ls st0) := by
  subst h1; subst h2
  exact va_calli (va_runV (As := As) (rest := rest) hfix hM cw (m_preV hE hI hi he hc) rfl hn hsize hst (lv_room hW) hdg hf) hI.2 (fun q _ h => mA_sub hE hI q h) (mA_sub hE hI) (fun r u t H1 locs1 ht hvm hp hB hz hk hS => kk r u.1 u.2.1 u.2.2 H1 locs1 hp (m_ge hE hI hB.2.1 hB.2.2) ⟨by rw [← ht]; exact hB.1, hS⟩)
theorem m_callVgq (hfix : CallFix p m c cc nL s args Ts own) (hE : mE k ad N A s) (hI : mI k ad N g A s H locs) {post : Option Nat → (Nat → Nat) → Nat → (Nat → va_E) → Prop} {i : Nat} (hM : mGq k l y ws rm ad N g H.size mc ms (.ref (ad i) :: As) post) (cw : CallW R s args own C index y bytes maxL ret ws rm mc ms n) {ci : Nat} {fs : List Value} {T : u_T} {N' : Nat} (hi : i < N) (he : g i = .inr (ci, fs)) (hc : vwCl[ci]? = some (C, T, N'))
    (hn : As.length = n) (hsize : ls.size = nL) (hst : st0 = As.reverse ++ .ref (ad i) :: rest) (hW : (rest.map fun v => v.category).sum ≤ 8) (hdg : decode cc pc = .ok (.invokevirtual index, 3)) (h1 : cells + mc = c1) (h2 : slots + ms = s1) (hf : c1 ≤ R.cells ∧ s1 ≤ R.slots)
    (kk : ∀ (r : Option Nat) (ad1 : Nat → Nat) (N1 : Nat) (g1 : Nat → va_E) (H : Heap) (locs : List Loc), post r ad1 N1 g1 → mE k ad1 N1 A s → mI k ad1 N1 g1 A s H locs → W p l e R s m args below meth c H locs c1 s1 Q (F0 m (pc + 3) ls (va_rf r :: rest))) : W p l e R s m args below meth c H locs cells slots Q (F0 m pc ls st0) := by
  subst h1; subst h2
  exact va_callq (va_runV (As := As) (rest := rest) hfix hM cw (m_preV hE hI hi he hc) rfl hn hsize hst (lv_room hW) hdg hf) hI.2 (fun q _ h => mA_sub hE hI q h) (mA_sub hE hI) (fun r u t H1 locs1 ht hvm hp hB hz hk hS => kk r u.1 u.2.1 u.2.2 H1 locs1 hp (m_ge hE hI hB.2.1 hB.2.2) ⟨by rw [← ht]; exact hB.1, hS⟩)
theorem m_callSgi (hfix : CallFix p m c cc nL s args Ts own) (hE : mE k ad N A s) (hI : mI k ad N g A s H locs) {post : Int32 → (Nat → Nat) → Nat → (Nat → va_E) → Prop} (hM : mGi k l y ws rm ad N g H.size mc ms As post) (cw : CallB R s args own index y bytes maxL ret ws rm mc ms n ∧ (Cond.static y).before args s = true)
    (hn : As.length = n) (hsize : ls.size = nL) (hst : st0 = As.reverse ++ rest) (hW : (rest.map fun v => v.category).sum ≤ 8) (hdg : decode cc pc = .ok (.invokestatic index, 3)) (h1 : cells + mc = c1) (h2 : slots + ms = s1) (hf : c1 ≤ R.cells ∧ s1 ≤ R.slots)
    (kk : ∀ (r : Int32) (ad1 : Nat → Nat) (N1 : Nat) (g1 : Nat → va_E) (H : Heap) (locs : List Loc), post r ad1 N1 g1 → mE k ad1 N1 A s → mI k ad1 N1 g1 A s H locs → W p l e R s m args below meth c H locs c1 s1 Q (F0 m (pc + 3) ls (.int r :: rest))) : W p l e R s m args below meth c H locs cells slots Q (F0 m pc ls st0) := by
  subst h1; subst h2
  exact va_calli (va_runS (As := As) (rest := rest) hfix hM cw (m_preS hE hI) rfl hn hsize hst (lv_room hW) hdg hf) hI.2 (fun q _ h => mA_sub hE hI q h) (mA_sub hE hI) (fun r u t H1 locs1 ht hvm hp hB hz hk hS => kk r u.1 u.2.1 u.2.2 H1 locs1 hp (m_ge hE hI hB.2.1 hB.2.2) ⟨by rw [← ht]; exact hB.1, hS⟩)
theorem m_callSgq (hfix : CallFix p m c cc nL s args Ts own) (hE : mE k ad N A s) (hI : mI k ad N g A s H locs) {post : Option Nat → (Nat → Nat) → Nat → (Nat → va_E) → Prop} (hM : mGq k l y ws rm ad N g H.size mc ms As post) (cw : CallB R s args own index y bytes maxL ret ws rm mc ms n ∧ (Cond.static y).before args s = true)
    (hn : As.length = n) (hsize : ls.size = nL) (hst : st0 = As.reverse ++ rest) (hW : (rest.map fun v => v.category).sum ≤ 8) (hdg : decode cc pc = .ok (.invokestatic index, 3)) (h1 : cells + mc = c1) (h2 : slots + ms = s1) (hf : c1 ≤ R.cells ∧ s1 ≤ R.slots)
    (kk : ∀ (r : Option Nat) (ad1 : Nat → Nat) (N1 : Nat) (g1 : Nat → va_E) (H : Heap) (locs : List Loc), post r ad1 N1 g1 → mE k ad1 N1 A s → mI k ad1 N1 g1 A s H locs → W p l e R s m args below meth c H locs c1 s1 Q (F0 m (pc + 3) ls (va_rf r :: rest))) : W p l e R s m args below meth c H locs cells slots Q (F0 m pc ls st0) := by
  subst h1; subst h2
  exact va_callq (va_runS (As := As) (rest := rest) hfix hM cw (m_preS hE hI) rfl hn hsize hst (lv_room hW) hdg hf) hI.2 (fun q _ h => mA_sub hE hI q h) (mA_sub hE hI) (fun r u t H1 locs1 ht hvm hp hB hz hk hS => kk r u.1 u.2.1 u.2.2 H1 locs1 hp (m_ge hE hI hB.2.1 hB.2.2) ⟨by rw [← ht]; exact hB.1, hS⟩)
theorem m_callIgv (hfix : CallFix p m c cc nL s args Ts own) (hE : mE k ad N A s) (hI : mI k ad N g A s H locs) {post : (Nat → Nat) → Nat → (Nat → va_E) → Prop} {i : Nat} (hM : mGv k l y ws rm ad N g H.size mc ms (.ref (ad i) :: As) post) (cw : CallB R s args own index y bytes maxL none ws rm mc ms n ∧ y.name = "<init>" ∧ (Cond.instanceMethod y).before args s = true)
    (hn : As.length = n) (hsize : ls.size = nL) (hst : st0 = As.reverse ++ .ref (ad i) :: rest) (hW : (rest.map fun v => v.category).sum ≤ 8) (hdg : decode cc pc = .ok (.invokespecial index, 3)) (h1 : cells + mc = c1) (h2 : slots + ms = s1) (hf : c1 ≤ R.cells ∧ s1 ≤ R.slots)
    (kk : ∀ (ad1 : Nat → Nat) (N1 : Nat) (g1 : Nat → va_E) (H : Heap) (locs : List Loc), post ad1 N1 g1 → mE k ad1 N1 A s → mI k ad1 N1 g1 A s H locs → W p l e R s m args below meth c H locs c1 s1 Q (F0 m (pc + 3) ls rest)) : W p l e R s m args below meth c H locs cells slots Q (F0 m pc ls st0) := by
  subst h1; subst h2
  exact va_callv (va_runI (As := As) (rest := rest) hfix hM cw (m_preS hE hI) rfl hn hsize hst (lv_room hW) hdg hf) hI.2 (fun q _ h => mA_sub hE hI q h) (mA_sub hE hI) (fun u t H1 locs1 ht hvm hp hB hz hk hS => kk u.1 u.2.1 u.2.2 H1 locs1 hp (m_ge hE hI hB.2.1 hB.2.2) ⟨by rw [← ht]; exact hB.1, hS⟩)
theorem m_callSNgq {host : String} (hfix : CallFix p m c cc nL s args Ts own) (hE : mE k ad N A s) (hI : mI k ad N g A s H locs) {post : Option Nat → (Nat → Nat) → Nat → (Nat → va_E) → Prop} (hM : mGq k l y ws rm ad N g H.size mc ms As post) (cw : va_CN R s args own index y host bytes maxL ret ws rm mc ms n ∧ (Cond.static y).before args s = true ∧ True)
    (hn : As.length = n) (hsize : ls.size = nL) (hst : st0 = As.reverse ++ rest) (hW : (rest.map fun v => v.category).sum ≤ 8) (hdg : decode cc pc = .ok (.invokestatic index, 3)) (h1 : cells + mc = c1) (h2 : slots + ms = s1) (hf : c1 ≤ R.cells ∧ s1 ≤ R.slots)
    (kk : ∀ (r : Option Nat) (ad1 : Nat → Nat) (N1 : Nat) (g1 : Nat → va_E) (H : Heap) (locs : List Loc), post r ad1 N1 g1 → mE k ad1 N1 A s → mI k ad1 N1 g1 A s H locs → W p l e R s m args below meth c H locs c1 s1 Q (F0 m (pc + 3) ls (va_rf r :: rest))) : W p l e R s m args below meth c H locs cells slots Q (F0 m pc ls st0) := by
  subst h1; subst h2
  exact va_callq (va_runSN (As := As) (rest := rest) hfix hM cw (m_preS hE hI) rfl hn hsize hst (lv_room hW) hdg hf) hI.2 (fun q _ h => mA_sub hE hI q h) (mA_sub hE hI) (fun r u t H1 locs1 ht hvm hp hB hz hk hS => kk r u.1 u.2.1 u.2.2 H1 locs1 hp (m_ge hE hI hB.2.1 hB.2.2) ⟨by rw [← ht]; exact hB.1, hS⟩)
theorem m_callINgv {host : String} (hfix : CallFix p m c cc nL s args Ts own) (hE : mE k ad N A s) (hI : mI k ad N g A s H locs) {post : (Nat → Nat) → Nat → (Nat → va_E) → Prop} {i : Nat} (hM : mGv k l y ws rm ad N g H.size mc ms (.ref (ad i) :: As) post) (cw : va_CN R s args own index y host bytes maxL none ws rm mc ms n ∧ y.name = "<init>" ∧ (Cond.instanceMethod y).before args s = true)
    (hn : As.length = n) (hsize : ls.size = nL) (hst : st0 = As.reverse ++ .ref (ad i) :: rest) (hW : (rest.map fun v => v.category).sum ≤ 8) (hdg : decode cc pc = .ok (.invokespecial index, 3)) (h1 : cells + mc = c1) (h2 : slots + ms = s1) (hf : c1 ≤ R.cells ∧ s1 ≤ R.slots)
    (kk : ∀ (ad1 : Nat → Nat) (N1 : Nat) (g1 : Nat → va_E) (H : Heap) (locs : List Loc), post ad1 N1 g1 → mE k ad1 N1 A s → mI k ad1 N1 g1 A s H locs → W p l e R s m args below meth c H locs c1 s1 Q (F0 m (pc + 3) ls rest)) : W p l e R s m args below meth c H locs cells slots Q (F0 m pc ls st0) := by
  subst h1; subst h2
  exact va_callv (va_runIN (As := As) (rest := rest) hfix hM cw (m_preS hE hI) rfl hn hsize hst (lv_room hW) hdg hf) hI.2 (fun q _ h => mA_sub hE hI q h) (mA_sub hE hI) (fun u t H1 locs1 ht hvm hp hB hz hk hS => kk u.1 u.2.1 u.2.2 H1 locs1 hp (m_ge hE hI hB.2.1 hB.2.2) ⟨by rw [← ht]; exact hB.1, hS⟩)
theorem m_preX {b L : Nat} {xs : Nat → Int32} (hE : mE k ad N A s) (hI : mI k ad N g A s H locs) (hX : va_X b L xs s s.heap) (hbl : b < s.heap.size) (hbA : ¬ A b) : PreS s H (mPs k ad N g H.size b L xs As) As :=
  ⟨mPs.blind, fun U hU hW => ⟨rfl, ⟨by rw [hU], mK.call hE.1 hI.2 (mA_sub hE hI) hU hW, by rw [hU]; exact hI.1, hE.2.1⟩, va_X.moved hW.alike (va_X.kept hX (by rw [hU]; exact hI.2.2.1 b hbl hbA)), Nat.lt_of_lt_of_le hbl hI.2.1, fun h => hbA (mA_sub hE hI b h)⟩⟩
/-- static calls with the script at hand -/
theorem m_callSxi {b L : Nat} {xs : Nat → Int32} (hX : va_X b L xs s s.heap) (hbl : b < s.heap.size) (hbA : ¬ A b) (hfix : CallFix p m c cc nL s args Ts own) (hE : mE k ad N A s) (hI : mI k ad N g A s H locs) {post : Int32 → (Nat → va_E) → Prop} (hM : Met l y ws rm (mPs k ad N g H.size b L xs As) (va_Qi post (mB k ad N) (mA ad N H.size)) 0 0 (mA ad N H.size)) (cw : CallB R s args own index y bytes maxL ret ws rm 0 0 n ∧ (Cond.static y).before args s = true)
    (hn : As.length = n) (hsize : ls.size = nL) (hst : st0 = As.reverse ++ rest) (hW : (rest.map fun v => v.category).sum ≤ 8) (hdg : decode cc pc = .ok (.invokestatic index, 3)) (hf : cells ≤ R.cells ∧ slots ≤ R.slots)
    (kk : ∀ (r : Int32) (g : Nat → va_E) (H : Heap) (locs : List Loc), post r g → mI k ad N g A s H locs → W p l e R s m args below meth c H locs cells slots Q (F0 m (pc + 3) ls (.int r :: rest))) : W p l e R s m args below meth c H locs cells slots Q (F0 m pc ls st0) :=
  va_calli (va_runS (As := As) (rest := rest) hfix hM cw (m_preX hE hI hX hbl hbA) rfl hn hsize hst (lv_room hW) hdg hf) hI.2 (fun q _ h => mA_sub hE hI q h) (mA_sub hE hI) (fun r g' t H1 locs1 ht hvm hp hB hz hk hS => kk r g' H1 locs1 hp ⟨by rw [← ht]; exact hB, hS⟩)
theorem m_callSxq {b L : Nat} {xs : Nat → Int32} (hX : va_X b L xs s s.heap) (hbl : b < s.heap.size) (hbA : ¬ A b) (hfix : CallFix p m c cc nL s args Ts own) (hE : mE k ad N A s) (hI : mI k ad N g A s H locs) {post : Option Nat → (Nat → Nat) → Nat → (Nat → va_E) → Prop} (hM : Met l y ws rm (mPs k ad N g H.size b L xs As) (va_Qq (S := mU) (fun r u => post r u.1 u.2.1 u.2.2) (mBg k (mA ad N H.size)) (mA ad N H.size)) mc ms (mA ad N H.size)) (cw : CallB R s args own index y bytes maxL ret ws rm mc ms n ∧ (Cond.static y).before args s = true)
    (hn : As.length = n) (hsize : ls.size = nL) (hst : st0 = As.reverse ++ rest) (hW : (rest.map fun v => v.category).sum ≤ 8) (hdg : decode cc pc = .ok (.invokestatic index, 3)) (h1 : cells + mc = c1) (h2 : slots + ms = s1) (hf : c1 ≤ R.cells ∧ s1 ≤ R.slots)
    (kk : ∀ (r : Option Nat) (ad1 : Nat → Nat) (N1 : Nat) (g1 : Nat → va_E) (H : Heap) (locs : List Loc), post r ad1 N1 g1 → mE k ad1 N1 A s → mI k ad1 N1 g1 A s H locs → W p l e R s m args below meth c H locs c1 s1 Q (F0 m (pc + 3) ls (va_rf r :: rest))) : W p l e R s m args below meth c H locs cells slots Q (F0 m pc ls st0) := by
  subst h1; subst h2
  exact va_callq (va_runS (As := As) (rest := rest) hfix hM cw (m_preX hE hI hX hbl hbA) rfl hn hsize hst (lv_room hW) hdg hf) hI.2 (fun q _ h => mA_sub hE hI q h) (mA_sub hE hI) (fun r u t H1 locs1 ht hvm hp hB hz hk hS => kk r u.1 u.2.1 u.2.2 H1 locs1 hp (m_ge hE hI hB.2.1 hB.2.2) ⟨by rw [← ht]; exact hB.1, hS⟩)
/-- a call of what could throw, and doesn't -/
theorem m_callVn (hfix : CallFix p m c cc nL s args Ts own) (hE : mE k ad N A s) (hI : mI k ad N g A s H locs) {post : Int32 → (Nat → va_E) → Prop} {xp : String → Prop} {i : Nat} (hM : mXi k l y ws rm ad N g H.size (.ref (ad i) :: As) post xp) (hno : ∀ E, xp E → False) (cw : CallW R s args own C index y bytes maxL ret ws rm 1 6 n) {ci : Nat} {fs : List Value} {T : u_T} {N' : Nat} (hi : i < N) (he : g i = .inr (ci, fs)) (hc : vwCl[ci]? = some (C, T, N'))
    (hn : As.length = n) (hsize : ls.size = nL) (hst : st0 = As.reverse ++ .ref (ad i) :: rest) (hW : (rest.map fun v => v.category).sum ≤ 8) (hdg : decode cc pc = .ok (.invokevirtual index, 3)) (h1 : cells + 1 = c1) (h2 : slots + 6 = s1) (hf : c1 ≤ R.cells ∧ s1 ≤ R.slots)
    (kk : ∀ (r : Int32) (g : Nat → va_E) (H : Heap) (locs : List Loc), post r g → mI k ad N g A s H locs → W p l e R s m args below meth c H locs c1 s1 Q (F0 m (pc + 3) ls (.int r :: rest))) : W p l e R s m args below meth c H locs cells slots Q (F0 m pc ls st0) := by
  subst h1; subst h2
  refine vx_calli (vx_runV (As := As) (rest := rest) hfix hM cw (m_preV hE hI hi he hc) rfl hn hsize hst (lv_room hW) hdg hf) hI.2 (fun q _ h => mA_sub hE hI q h) (mA_sub hE hI) (fun q _ h => mA_sub hE hI q h) (fun E ce q9 u t H1 locs1 ht hvm _ hB hz hk hS hce hcv hcl => (hno E hB.1).elim) (fun r g' t H1 locs1 ht hvm hp hB hz hk hS => kk r g' H1 locs1 hp ⟨by rw [← ht]; exact hB, hS⟩)
end MG
