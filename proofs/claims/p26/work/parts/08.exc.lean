/-! The layer of what throws: contracts that return, or throw and leave the world as it was. -/
section MX
abbrev xnm : List String := ["java/lang/RuntimeException", "java/lang/Exception"]
theorem x_nm : ∀ n ∈ xnm, Bundle.fit n = true := by decide +kernel
theorem x_fit36 : Bundle.fit "java/lang/IndexOutOfBoundsException" = true := by decide +kernel
theorem x_fit67 : Bundle.fit "java/lang/IllegalArgumentException" = true := by decide +kernel
theorem x_fit99 : Bundle.fit "java/lang/IllegalStateException" = true := by decide +kernel
def xbw (X : String) : List Cond := .castable X X :: mNd.map .declares
theorem x_bw {args : Array Value} {s : State} (h : mNw s) {X : String} (hX : X ∈ mNx) : ∀ w ∈ xbw X, w.before args s = true := by
  intro w hw
  rcases List.mem_cons.mp hw with rfl | hw
  · exact va_Nw.use rfl (h.2.1 X hX)
  · obtain ⟨x, hx, rfl⟩ := List.mem_map.mp hw
    exact va_Nw.use rfl (h.1 x hx)
theorem x_bad36 : ∀ w ∈ (vx_atS RX3 40 "java/lang/IndexOutOfBoundsException" xnm).filter (fun w => !goodWord w), w ∈ xbw "java/lang/IndexOutOfBoundsException" := by decide +kernel
theorem x_bad67 : ∀ w ∈ (vx_atS RX3 71 "java/lang/IllegalArgumentException" xnm).filter (fun w => !goodWord w), w ∈ xbw "java/lang/IllegalArgumentException" := by decide +kernel
theorem x_bad99 : ∀ w ∈ (vx_atS RX3 103 "java/lang/IllegalStateException" xnm).filter (fun w => !goodWord w), w ∈ xbw "java/lang/IllegalStateException" := by decide +kernel
theorem x_hat36 {args : Array Value} {s : State} (hn : mNw s) (h : ∀ w ∈ (vx_atS RX3 40 "java/lang/IndexOutOfBoundsException" xnm).filter goodWord, w.before args s = true) : ∀ w ∈ vx_atS RX3 40 "java/lang/IndexOutOfBoundsException" xnm, w.before args s = true := vx_hat h x_bad36 (x_bw hn (by decide))
theorem x_hat67 {args : Array Value} {s : State} (hn : mNw s) (h : ∀ w ∈ (vx_atS RX3 71 "java/lang/IllegalArgumentException" xnm).filter goodWord, w.before args s = true) : ∀ w ∈ vx_atS RX3 71 "java/lang/IllegalArgumentException" xnm, w.before args s = true := vx_hat h x_bad67 (x_bw hn (by decide))
theorem x_hat99 {args : Array Value} {s : State} (hn : mNw s) (h : ∀ w ∈ (vx_atS RX3 103 "java/lang/IllegalStateException" xnm).filter goodWord, w.before args s = true) : ∀ w ∈ vx_atS RX3 103 "java/lang/IllegalStateException" xnm, w.before args s = true := vx_hat h x_bad99 (x_bw hn (by decide))
theorem x_good36 : ∀ w ∈ Cond.classLink RX3 36 "java/lang/IndexOutOfBoundsException" :: Cond.initialized "java/lang/IndexOutOfBoundsException" :: vx_atS RX3 40 "java/lang/IndexOutOfBoundsException" xnm, vx_ot w = true := by decide +kernel
theorem x_good67 : ∀ w ∈ Cond.classLink RX3 67 "java/lang/IllegalArgumentException" :: Cond.initialized "java/lang/IllegalArgumentException" :: vx_atS RX3 71 "java/lang/IllegalArgumentException" xnm, vx_ot w = true := by decide +kernel
theorem x_good99 : ∀ w ∈ Cond.classLink RX3 99 "java/lang/IllegalStateException" :: Cond.initialized "java/lang/IllegalStateException" :: vx_atS RX3 103 "java/lang/IllegalStateException" xnm, vx_ot w = true := by decide +kernel
/-- what is thrown: a class of which xp holds; the world is g -/
def mX (xp : String → Prop) (k : mC) (ad : Nat → Nat) (N : Nat) (g : Nat → va_E) (sz : Nat) : String → State → State → Prop :=
  vx_X (fun _ : Unit => True) (fun E _ t => xp E ∧ mB k ad N g t) (mA ad N sz)
def mXi (k : mC) (l : Launch) (y : MethodName) (ws : List Cond) (rm : Room) (ad : Nat → Nat) (N : Nat) (g : Nat → va_E) (sz : Nat) (av : List Value) (post : Int32 → (Nat → va_E) → Prop) (xp : String → Prop) : Prop :=
  vx_Met l y ws rm (mPc k ad N g sz av) (va_Qi post (mB k ad N) (mA ad N sz)) (mX xp k ad N g sz) 1 6 (mA ad N sz)
theorem mOfX {k : mC} {l : Launch} {y : MethodName} {ws ws' : List Cond} {rm : Room} {ad : Nat → Nat} {N : Nat} {g : Nat → va_E} {sz : Nat} {av : List Value} {cc : ByteArray} {maxL : Nat} {ret : Option FieldType} {post : Int32 → (Nat → va_E) → Prop} {xp : String → Prop}
    (hy : plainName y.cls = true) (hw : ws = Cond.code y cc maxL ret :: ws') (hav : (lg_sl av).length ≤ maxL)
    (body : ∀ (p : Program) (e : Env) (s : State) (m : MethodId) (below : List Frame) (meth : Method) (c : Code), p.tables.exec = Jvm.exec → c.code = cc → meth.sig.returnType = ret → (∀ w ∈ ws, w.before av.toArray s = true) → s.vm.findClass y.cls = some m.cls → meth.locks = false → c.maxLocals = maxL → (∀ x ∈ c.exceptionTable.toList, False) →
      mE k ad N (mA ad N s.heap.size) s → mI k ad N g (mA ad N s.heap.size) s s.heap [] → ∀ ls : Array Slot, lv_has ls maxL (lv_args 0 av) →
      W p l e rm s m av.toArray below meth c s.heap [] 0 0 (vx_MQ below (va_Qi post (mB k ad N) (mA ad N s.heap.size)) (mX xp k ad N g s.heap.size) av.toArray s 1 6 (mA ad N s.heap.size)) (F0 m 0 ls [])) :
    mXi k l y ws rm ad N g sz av post xp := by
  refine vx_ofW (cc := cc) (maxL := maxL) (ret := ret) hy hw ?_
  intro p e s m args below meth c s₁ B hml ht hv
  obtain ⟨rfl, hsz, hK, hP, hJ⟩ := hv
  subst hsz
  rw [lg_entry_eq]
  exact body p e s m below meth c B.exec B.bytes B.returns (atoms_spec (ws := ws) B.pre) (findClass_of_methodNamed B.named) B.notSynchronized hml ht ⟨hK, hJ, fun i hi => Or.inl ⟨i, hi, rfl⟩, fun q hq => Or.inr hq⟩ ⟨hP, va_S.rf⟩ _ (lv_entry av hav)
/-- a method with handlers of its own, that always returns -/
theorem mOfH {k : mC} {l : Launch} {y : MethodName} {ws ws' : List Cond} {rm : Room} {ad : Nat → Nat} {N : Nat} {g : Nat → va_E} {sz : Nat} {av : List Value} {cc : ByteArray} {maxL mc ms : Nat} {ret : Option FieldType} {hh : List (Nat × Nat × Nat × Nat)} {Qc : Nat → Array Value → State → Outcome → State → Prop}
    (hy : plainName y.cls = true) (hw : ws = Cond.codeWith y cc maxL ret hh :: ws') (hav : (lg_sl av).length ≤ maxL)
    (body : ∀ (p : Program) (e : Env) (s : State) (m : MethodId) (below : List Frame) (meth : Method) (c : Code), p.tables.exec = Jvm.exec → c.code = cc → meth.sig.returnType = ret → (∀ w ∈ ws, w.before av.toArray s = true) → s.vm.findClass y.cls = some m.cls → meth.locks = false → c.maxLocals = maxL → c.exceptionTable.toList = tableOf hh →
      mE k ad N (mA ad N s.heap.size) s → mI k ad N g (mA ad N s.heap.size) s s.heap [] → ∀ ls : Array Slot, lv_has ls maxL (lv_args 0 av) →
      W p l e rm s m av.toArray below meth c s.heap [] 0 0 (MQ below (Qc s.heap.size) av.toArray s mc ms (mA ad N s.heap.size)) (F0 m 0 ls [])) :
    Met l y ws rm (mPc k ad N g sz av) (Qc sz) mc ms (mA ad N sz) := by
  refine MetFree.of_bodyS (code := cc) (maxLocals := maxL) (ret := ret) hy ?_ ?_
  · intro args s m h hn
    obtain ⟨m9, meth, c, hn9, h1, h2, h3, h4, -, h5, h6, -⟩ := Cond.codeWith_spec (atoms_spec (ws := ws) h _ (by rw [hw]; exact List.mem_cons_self))
    cases hn.symm.trans hn9
    exact ⟨meth, c, h1, h2, h3, h4, h5, h6⟩
  · intro p e s m args below meth c s₁ B hml hv _
    obtain ⟨rfl, hsz, hK, hP, hJ⟩ := hv
    subst hsz
    have hh0 : s₁.heap = s.heap := by rw [B.state]; rfl
    have hts := atoms_spec (ws := ws) B.pre
    have htab := vx_table (x := y) B (hts _ (by rw [hw]; exact List.mem_cons_self))
    have K := body p e s m below meth c B.exec B.bytes B.returns hts (findClass_of_methodNamed B.named) B.notSynchronized hml htab ⟨hK, hJ, fun i hi => Or.inl ⟨i, hi, rfl⟩, fun q hq => Or.inr hq⟩ ⟨hP, va_S.rf⟩ _ (lv_entry av hav)
    rw [← lg_entry_eq] at K
    obtain ⟨t, a1, o, b1, b2, b3⟩ := K s₁ hh0 (Stand.of_body B)
    exact ⟨t, o, a1, b1, b2, ⟨b3.1, b3.2⟩⟩
section MR
variable {p : Program} {l : Launch} {e : Env} {R : Room} {s : State} {m : MethodId} {args : Array Value} {below : List Frame} {meth : Method} {c : Code} {H : Heap} {locs : List Loc} {cells slots : Nat} {Q : State → Prop}
variable {cc : ByteArray} {pc : Nat} {ls : Array Slot} {rest : List Value} {k : mC} {ad : Nat → Nat} {N : Nat} {g : Nat → va_E} {A : Nat → Prop}
/-- new X(text), thrown out of the method -/
theorem m_throwS (hx : p.tables.exec = Jvm.exec) (hb : c.code = cc) (hst : l.stackTraces = false) (hown : s.vm.findClass RX3 = some m.cls) {cls text : String} {ik is ic : Nat} (hcls : Bundle.fit cls = true)
    (hk : (Cond.classLink RX3 ik cls).before args s = true) (hini : (Cond.initialized cls).before args s = true) (hat : ∀ w ∈ vx_atS RX3 ic cls xnm, w.before args s = true) (hgood : ∀ w ∈ Cond.classLink RX3 ik cls :: Cond.initialized cls :: vx_atS RX3 ic cls xnm, vx_ot w = true) (hmem : (is, text) ∈ mST)
    (hE : mE k ad N (mA ad N s.heap.size) s) (hI : mI k ad N g (mA ad N s.heap.size) s H locs) (hsize : ls.size = c.maxLocals)
    (d0 : decode cc pc = .ok (.new ik, 3)) (d3 : decode cc (pc + 3) = .ok (.dup, 1)) (d4 : decode cc (pc + 4) = .ok (.ldc is, 2)) (d6 : decode cc (pc + 6) = .ok (.invokespecial ic, 3)) (d9 : decode cc (pc + 9) = .ok (.athrow, 1))
    (htab : ∀ x ∈ c.exceptionTable.toList, False) (hlocks : meth.locks = false) (hRf : 6 ≤ R.frames ∧ 1 ≤ R.cells ∧ 6 ≤ R.slots) (hRl : 82 ≤ R.locals) {Qc : Array Value → State → Outcome → State → Prop} {xp : String → Prop} (hxp : xp cls) :
    W p l e R s m args below meth c H locs 0 0 (vx_MQ below Qc (mX xp k ad N g s.heap.size) args s 1 6 (mA ad N s.heap.size)) (F0 m pc ls []) := by
  obtain ⟨sa, hsa⟩ := hE.1.2.2.2.2.1 (is, text) hmem
  refine vx_throwS hx hb hst (names := xnm) hown hcls x_nm hk hini hsa hat hgood hE.1.2.2.2.1.1 hE.1.2.2.2.1.2 hI.2 hsize d0 d3 d4 d6 d9 (fun x hx => (htab x hx).elim) (by show 5 < R.frames; omega) (by show 0 + 82 ≤ R.locals; omega) (by omega) (by omega) hlocks ?_ hI.2.2.2 (Nat.le_refl _) (Nat.le_refl _)
  intro t ht hz hq
  refine ⟨(), trivial, ⟨hxp, ?_⟩, Nat.le_trans hI.2.1 hz, fun q h1 h2 => ?_⟩
  · exact hI.1.kept (fun i q hi => hq q.1 (hI.1 i q hi).lt)
  · rw [hq q (Nat.lt_of_lt_of_le h1 hI.2.1)]
    exact hI.2.2.1 q h1 h2
variable {y : MethodName} {bytes : ByteArray} {maxL nL n index : Nat} {ret : Option FieldType} {ws : List Cond} {rm : Room} {Ts : List Cond} {own C : String} {As : List Value} {st0 : List Value}
/-- a call of what may throw -/
theorem m_callVx (hfix : CallFix p m c cc nL s args Ts own) (hE : mE k ad N A s) (hI : mI k ad N g A s H locs) {post : Int32 → (Nat → va_E) → Prop} {xp : String → Prop} {i : Nat} (hM : mXi k l y ws rm ad N g H.size (.ref (ad i) :: As) post xp) (cw : CallW R s args own C index y bytes maxL ret ws rm 1 6 n) {ci : Nat} {fs : List Value} {T : u_T} {N' : Nat} (hi : i < N) (he : g i = .inr (ci, fs)) (hc : vwCl[ci]? = some (C, T, N'))
    (hn : As.length = n) (hsize : ls.size = nL) (hst : st0 = As.reverse ++ .ref (ad i) :: rest) (hW : (rest.map fun v => v.category).sum ≤ 8) (hdg : decode cc pc = .ok (.invokevirtual index, 3)) (hf : cells + 1 ≤ R.cells ∧ slots + 6 ≤ R.slots)
    (kx : ∀ (E : String) (ce : Cell) (q9 : Addr) (H : Heap) (locs : List Loc), xp E → mI k ad N g A s H locs → H[q9]? = some ce → ce.vm = .none → s.vm.findClass E = some ce.cls → vx_W p l e R s m args below meth c H locs (cells + 1) (slots + 6) Q (F0 m pc ls rest) q9)
    (kk : ∀ (r : Int32) (g : Nat → va_E) (H : Heap) (locs : List Loc), post r g → mI k ad N g A s H locs → W p l e R s m args below meth c H locs (cells + 1) (slots + 6) Q (F0 m (pc + 3) ls (.int r :: rest))) : W p l e R s m args below meth c H locs cells slots Q (F0 m pc ls st0) :=
  vx_calli (vx_runV (As := As) (rest := rest) hfix hM cw (m_preV hE hI hi he hc) rfl hn hsize hst (lv_room hW) hdg hf) hI.2 (fun q _ h => mA_sub hE hI q h) (mA_sub hE hI) (fun q _ h => mA_sub hE hI q h)
    (fun E ce q9 u t H1 locs1 ht hvm _ hB hz hk hS hce hcv hcl => kx E ce q9 H1 locs1 hB.1 ⟨by rw [← ht]; exact hB.2, hS⟩ hce hcv hcl)
    (fun r g' t H1 locs1 ht hvm hp hB hz hk hS => kk r g' H1 locs1 hp ⟨by rw [← ht]; exact hB, hS⟩)
end MR
end MX
