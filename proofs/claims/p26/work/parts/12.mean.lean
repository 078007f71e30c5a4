/-! Means: contracts of methods that may draw which NaN they answer. -/
theorem mE.drawn {k : mC} {ad : Nat → Nat} {N : Nat} {A : Nat → Prop} {s : State} (h : mE k ad N A s) (d : Drawn) : mE k ad N A (s.setDrawn d) :=
  ⟨mK.call (U := s.setDrawn d) h.1 va_S.rf (fun _ h => h) rfl (State.WarmedH.refl s), h.2.1, h.2.2.1, h.2.2.2⟩
def mCd (k : mC) (l : Launch) (y : MethodName) (ws : List Cond) (rm : Room) (ad : Nat → Nat) (N : Nat) (g : Nat → va_E) (sz : Nat) (av : List Value) (post : UInt64 → (Nat → va_E) → Prop) : Prop :=
  MetD lw_cs l y ws rm (mPc k ad N g sz av) (va_Qd post (mB k ad N) (mA ad N sz)) 0 0 (mA ad N sz)
theorem mOfD {k : mC} {l : Launch} {y : MethodName} {ws ws' : List Cond} {rm : Room} {ad : Nat → Nat} {N : Nat} {g : Nat → va_E} {sz : Nat} {av : List Value} {cc : ByteArray} {maxL : Nat} {ret : Option FieldType} {post : UInt64 → (Nat → va_E) → Prop}
    (hy : plainName y.cls = true) (hw : ws = Cond.code y cc maxL ret :: ws') (hav : (lg_sl av).length ≤ maxL)
    (body : ∀ (p : Program) (e : Env) (s : State) (m : MethodId) (below : List Frame) (meth : Method) (c : Code), p.tables.exec = Jvm.exec → c.code = cc → meth.sig.returnType = ret → (∀ d : Drawn, ∀ w ∈ ws, w.before av.toArray (s.setDrawn d) = true) → s.vm.findClass y.cls = some m.cls → meth.locks = false → c.maxLocals = maxL → s.drawn.sameBut s.drawn lw_cs →
      (∀ d : Drawn, mE k ad N (mA ad N s.heap.size) (s.setDrawn d)) → mI k ad N g (mA ad N s.heap.size) (s.setDrawn s.drawn) s.heap [] → ∀ ls : Array Slot, lv_has ls maxL (lv_args 0 av) →
      W p l e rm (s.setDrawn s.drawn) m av.toArray below meth c s.heap [] 0 0 (MQD lw_cs below (va_Qd post (mB k ad N) (mA ad N s.heap.size)) av.toArray s 0 0 (mA ad N s.heap.size)) (F0 m 0 ls [])) :
    mCd k l y ws rm ad N g sz av post := by
  refine MetD.ofW (cc := cc) (maxL := maxL) (ret := ret) hy hw ?_
  intro p e s m args below meth c s₁ B hml hv hd0
  obtain ⟨rfl, hsz, hK, hP, hJ⟩ := hv
  subst hsz
  rw [lg_entry_eq]
  have hE : mE k ad N (mA ad N s.heap.size) s := ⟨hK, hJ, fun i hi => Or.inl ⟨i, hi, rfl⟩, fun q hq => Or.inr hq⟩
  exact body p e s m below meth c B.exec B.bytes B.returns (fun d => dr_words (atoms_spec (ws := ws) B.pre) d) (findClass_of_methodNamed B.named) B.notSynchronized hml hd0 (fun d => hE.drawn d) ⟨hP, va_S.rf⟩ _ (lv_entry av hav)
section MD
variable {p : Program} {l : Launch} {e : Env} {R : Room} {s : State} {m : MethodId} {args : Array Value} {below : List Frame} {meth : Method} {c : Code} {H : Heap} {locs : List Loc} {cells slots : Nat} {Q : State → Prop}
variable {cc : ByteArray} {pc : Nat} {ls : Array Slot} {rest : List Value} {k : mC} {ad : Nat → Nat} {N : Nat} {g : Nat → va_E} {A : Nat → Prop}
theorem m_dret (hx : p.tables.exec = Jvm.exec) (hb : c.code = cc) (hr : meth.sig.returnType = some .double) (hlocks : meth.locks = false) {d0 : Drawn} (hd0 : s.drawn.sameBut d0 lw_cs) (hI : mI k ad N g A (s.setDrawn d0) H locs) {post : UInt64 → (Nat → va_E) → Prop} {v : UInt64} (hp : post v g) (hdg : decode cc pc = .ok (.dreturn, 1)) :
    W p l e R (s.setDrawn d0) m args below meth c H locs cells slots (MQD lw_cs below (va_Qd post (mB k ad N) A) args s cells slots A) (F0 m pc ls [.double v]) := by
  refine W.endD hd0 ?_
  exact W.dret (v := v) hx hb hr (fun t ht hW => ⟨⟨v, g, rfl, hp, by unfold mB; rw [ht]; exact hI.1⟩, hI.2.F ht⟩) hI.2.2.2 hdg hlocks
variable {y : MethodName} {bytes : ByteArray} {maxL nL n index : Nat} {ret : Option FieldType} {ws : List Cond} {rm : Room} {Ts : List Cond} {own C : String} {As : List Value} {st0 : List Value}
/-- a call of a method that answers a double, and may draw -/
theorem m_callVd {d0 : Drawn} (hd0 : s.drawn.sameBut d0 lw_cs) (hfix : CallFix p m c cc nL (s.setDrawn d0) args Ts own) (hE : mE k ad N A (s.setDrawn d0)) (hI : mI k ad N g A (s.setDrawn d0) H locs) {post : UInt64 → (Nat → va_E) → Prop} {i : Nat} (hM : mCd k l y ws rm ad N g H.size (.ref (ad i) :: As) post) (cw : CallW R (s.setDrawn d0) args own C index y bytes maxL ret ws rm 0 0 n) {ci : Nat} {fs : List Value} {T : u_T} {N' : Nat} (hi : i < N) (he : g i = .inr (ci, fs)) (hc : vwCl[ci]? = some (C, T, N'))
    (hn : As.length = n) (hsize : ls.size = nL) (hst : st0 = As.reverse ++ .ref (ad i) :: rest) (hW : (rest.map fun v => v.category).sum ≤ 8) (hdg : decode cc pc = .ok (.invokevirtual index, 3)) (hf : cells ≤ R.cells ∧ slots ≤ R.slots)
    (kk : ∀ (r : UInt64) (g : Nat → va_E) (H : Heap) (locs : List Loc), post r g → mI k ad N g A s H locs → ∀ d' : Drawn, s.drawn.sameBut d' lw_cs → W p l e R (s.setDrawn d') m args below meth c H locs cells slots Q (F0 m (pc + 3) ls (.double r :: rest))) : W p l e R (s.setDrawn d0) m args below meth c H locs cells slots Q (F0 m pc ls st0) :=
  va_calldD hd0 (va_runV_D (As := As) (rest := rest) hfix hM cw (m_preV hE hI hi he hc) rfl hn hsize hst (lv_room hW) hdg hf) hI.2 (fun q _ h => mA_sub hE hI q h) (mA_sub hE hI) (fun r g' t H1 locs1 ht hvm hp hB hz hk hS d' hd' => kk r g' H1 locs1 hp ⟨by rw [← ht]; exact hB, hS⟩ d' hd')
end MD

set_option maxHeartbeats 8000000 in
set_option maxRecDepth 100000 in
theorem c_X3_mean (k : mC) (l : Launch) (ad : Nat → Nat) (N : Nat) (g : Nat → va_E) (sz : Nat) (uns : Bool) (play rd n : Nat) (lat : Nat → Int32) (gar T : Nat → Nat) (came : Nat) (mis lost bel : Int32) (fig : Bool) (fi u : Nat) (z : Nat → Nat) (F : Nat → Nat → Nat) (r : Nat → Option Nat) (hN : 50 ≤ N) (hW : CW play rd n lat gar T) (hwf : cWf (fi, u, z, F)) (hcame : came < 2000000000) (hC : CR k ad g uns play rd n lat gar T (came, mis, lost, bel, fig, fi, u, z, F) r) : mCd k l yX3_mean wsX3_mean { frames := 2, cells := 0, slots := 0, locals := 45 } ad N g sz [.ref (ad 0)] (fun r1 g1 => alike64 r1 (FP.ddiv (FP.i2d (nI (sumz z fi u))) (FP.i2d (nI u))) = true ∧ g1 = g) := by
  refine mOfD (cc := cX3_mean) (maxL := 2) (ret := (some .double)) (by decide) rfl (Nat.le_of_ble_eq_true rfl) ?_
  intro p e s m below meth c hx hb hr hts9 hown hlocks hml hd0 hE9 hI ls hl
  have hts := hts9 s.drawn
  have hE := hE9 s.drawn
  have hl : lv_has ls 2 [(0, .ref (ad 0))] := hl
  have h0 : g 0 = .inr (3, [.ref (ad 1), .ref (ad 6), .ref (ad 48), .int (nI rd), .int (bI fig), .int (bI uns), .int (nI came), .int mis, .int lost, .int bel]) := hC.1
  have hWi : CWi k ad g play lat gar := hC.2.1
  have hSh : CSh k ad g fi u z F r := hC.2.2.1
  have h48 : g 48 = .inr (0, [.ref (ad 49), .int (nI n)]) := hC.2.2.2.1
  have h49 : g 49 = .inl (k.2.1.1, 120, .inl (fun j => nI (T j))) := hC.2.2.2.2
  have hr48 : CRow k ad g 48 120 n (fun j => nI (T j)) := ⟨h48, h49⟩
  have h1 := hWi.1
  have h6 : g 6 = .inr (1, [.ref (ad 7), .int (nI fi), .int (nI u)]) := hSh.1
  obtain ⟨hplay, hrd, hn, hgar, hT, hlat⟩ := id hW
  have hfi : fi < 20 := hwf.1
  have hu0 : 0 < u := hwf.2.1
  have hu : u ≤ 20 := hwf.2.2
  refine lv_aload_n hx hb dX3_mean_0 rfl (lv_at hl 0 rfl) ?_
  refine m_get (ci := 3) (C := RX3) (T := TX3) (N' := 10) hx hb hts (by decide +kernel) hown hE hI 0 (by omega) h0 rfl 1 (by decide) (hts (.fieldLink RX3 19 "TapePrinter" "sheet" "LTapePrinter$Sheet;") (by decide +kernel)) rfl dX3_mean_1 ?_
  refine m_callVi (As := []) (rest := []) ⟨hx, hb, hml, hown, hts⟩ hE hI (c_X1_lines k l ad N g _ fi u z F r  (by omega) (by omega) (by omega) (by omega) hSh ) (cwV 0 hts gX3_mean_X1_lines rfl rfl rfl (by decide +kernel) ⟨Nat.le_of_ble_eq_true rfl, Nat.le_of_ble_eq_true rfl⟩) (i := 6) (by omega) h6 rfl rfl hl.1 rfl (Nat.le_of_ble_eq_true rfl) dX3_mean_4 ⟨Nat.le_of_ble_eq_true rfl, Nat.le_of_ble_eq_true rfl⟩ (m_deti (fun H locs hI => ?_))
  refine lv_istore_n (lv' := [(1, .int (nI u)), (0, .ref (ad 0))]) hx hb dX3_mean_7 rfl hl (by decide) rfl (fun ls hl => ?_)
  refine lv_iload_n hx hb dX3_mean_8 rfl (lv_at hl 0 rfl) ?_
  refine lv_iconst (v := nI 1) hx hb dX3_mean_9 (by decide) ?_
  refine m_cgeN (tgt := 17) hx hb (by omega) (by omega) dX3_mean_10 (by decide) (fun c_10 => ?_) (fun c_10 => ?_)
  · refine lv_aload_n hx hb dX3_mean_17 rfl (lv_at hl 1 rfl) ?_
    refine m_get (ci := 3) (C := RX3) (T := TX3) (N' := 10) hx hb hts (by decide +kernel) hown hE hI 0 (by omega) h0 rfl 1 (by decide) (hts (.fieldLink RX3 19 "TapePrinter" "sheet" "LTapePrinter$Sheet;") (by decide +kernel)) rfl dX3_mean_18 ?_
    refine m_callVi (As := []) (rest := []) ⟨hx, hb, hml, hown, hts⟩ hE hI (c_X1_characters k l ad N g _ fi u z F r  (by omega) (by omega) (by omega) (by omega) hSh ) (cwV 0 hts gX3_mean_X1_characters rfl rfl rfl (by decide +kernel) ⟨Nat.le_of_ble_eq_true rfl, Nat.le_of_ble_eq_true rfl⟩) (i := 6) (by omega) h6 rfl rfl hl.1 rfl (Nat.le_of_ble_eq_true rfl) dX3_mean_21 ⟨Nat.le_of_ble_eq_true rfl, Nat.le_of_ble_eq_true rfl⟩ (m_deti (fun H locs hI => ?_))
    refine lv_i2d hx hb dX3_mean_24 ?_
    refine lv_iload_n hx hb dX3_mean_25 rfl (lv_at hl 0 rfl) ?_
    refine lv_i2d hx hb dX3_mean_26 ?_
    refine lv_ddiv_any hd0 lw_bits hx hb dX3_mean_27 (fun r9 d1 hal hd1 => ?_)
    exact m_dret hx hb hr hlocks hd1 hI (post := fun r1 g1 => alike64 r1 (FP.ddiv (FP.i2d (nI (sumz z fi u))) (FP.i2d (nI u))) = true ∧ g1 = g) ⟨hal, rfl⟩ dX3_mean_28
  · exact absurd c_10 (by omega)
