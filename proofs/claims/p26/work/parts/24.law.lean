/-! THE CLAIM OUT OF ONE WALK OF THE LAW'S BODY. Your part is whole_start (and what it stands on); all else here is the same for every law, but numbers. -/
def R_law : String := "TapePrinterLaw"
def lw_P (b : Addr) (xs : List Int32) (args : Array Value) (s : State) : Prop := args = #[.ref b] ∧ s.IntsAt b xs ∧ xs.length ≤ 260 ∧ (Jvm.Cond.and given_1 narrow_1).before args s = true
/-- what a walk over the start with the record d0 says of its end, said of the start itself -/
theorem lw_closed {s t : State} {o : Outcome} {d0 : Drawn} {L : List Loc} {k n : Nat} (hd0 : s.drawn.sameBut d0 lw_cs) (hv : ∃ v, o = .returned v) (hW : (s.setDrawn d0).WarmedH t.vm) (hs : (s.setDrawn d0).sameButNew ({ t with vm := s.vm } : State) L k n) : State.butDraws s t lw_cs (fun t1 => Framed s o t1 L k n) := by
  have h2 : t.drawn = d0 := congrArg State.drawn hs.1
  refine ⟨⟨hv, hW, State.sameButNew.setDrawn hs s.drawn⟩, ?_, by decide⟩
  rw [h2]
  exact hd0
def lw_Q (_ : Array Value) (s : State) (o : Outcome) (t : State) : Prop := o = .returned (some (.int 1)) ∧ State.butDraws s t lw_cs (fun t1 => Framed s o t1 [] 600130 7301080)
def lw_Z (below : List Frame) (a : Array Value) (s : State) : State → Prop := fun t => ∃ o, t.status = .running ∧ Ended t below o ∧ lw_Q a s o t
/-- the law's own end, with 1 on the stack, nothing written that was there before, its room as the claim has it; d0: the record of draws at this point (at the entry s.drawn: begin with 'refine W.base ?_' and 'have hd0 := Drawn.sameBut.refl s.drawn lw_cs') -/
theorem lw_ret {p : Program} {l : Launch} {e : Env} {s : State} {m : MethodId} {below : List Frame} {meth : Method} {c : Code} {b : Nat} {d0 : Drawn} (hd0 : s.drawn.sameBut d0 lw_cs) (hx : p.tables.exec = Jvm.exec) (hb : c.code = code) (hr : meth.sig.returnType = ret) (hlocks : meth.locks = false) {pc : Nat} {H : Heap} {ls : Array Slot} (hdg : decode code pc = .ok (.ireturn, 1)) : W p l e room_1 (s.setDrawn d0) m #[Value.ref b] below meth c H [] 600130 7301080 (lw_Z below #[Value.ref b] s) (F0 m pc ls [.int 1]) := by
  intro T hT X
  obtain ⟨fs, hret, hrun, hended, hW, hframe⟩ := X.leave (v := some (.int 1)) (hlocks := hlocks) (fun h => by rw [hr] at h; cases h)
  have hmeth' : T.vm.method? m = some meth := X.method'
  refine ⟨T.setFrames fs, ?_, .returned (some (.int 1)), hrun, hended, rfl, lw_closed hd0 ⟨_, rfl⟩ hW hframe⟩
  jvm_step X.here [X.here.top, hx, hb, hdg, hmeth', hr, ret, narrow_b1]
  (try refine ⟨rfl, ?_⟩); (try refine ⟨rfl, ?_⟩)
  first | (intro acts; rw [hret _ acts rfl rfl rfl]) | rw [hret _ _ rfl rfl rfl]
  exact Steps.refl _
/-- what holds at the law's entry: the machine, the code, the tables' words (any of lw_tbl by 'hts w (by decide +kernel)'), the script of L ints xs at the cell b, what the Statement gives of the start (any of its parts by flat_of_before) -/
def lw_At (p : Program) (s : State) (m : MethodId) (meth : Method) (c : Code) (b L : Nat) (xs : Nat → Int32) : Prop :=
  p.tables.exec = Jvm.exec ∧ c.code = code ∧ meth.sig.returnType = ret ∧ c.maxLocals = 24 ∧ s.vm.findClass R_law = some m.cls ∧ (∀ w ∈ lw_tbl, w.before #[Value.ref b] s = true) ∧ va_X b L xs s s.heap ∧ b < s.heap.size ∧ meth.locks = false ∧ (Jvm.Cond.and given_1 narrow_1).before #[Value.ref b] s = true
set_option maxHeartbeats 2000000 in
set_option maxRecDepth 100000 in
theorem whole_start {p : Program} {e : Env} {s : State} {m : MethodId} {below : List Frame} {meth : Method} {c : Code} (l : Launch) (hflags : l.flags = flags0) {b L : Nat} {xs : Nat → Int32} (hL : L ≤ 260) (C0 : lw_At p s m meth c b L xs) : W p l e room_1 s m #[Value.ref b] below meth c s.heap [] 0 0 (lw_Z below #[Value.ref b] s) (entryFrame m ([Value.ref b] : List Value).toArray 24) := by
  obtain ⟨hx, hb, hr, hml, hown, hts0, hX, hbl, hlocks, hgv⟩ := id C0
  have hst : l.stackTraces = false := by
    unfold Launch.stackTraces
    rw [hflags]
    first | decide +kernel | rfl
  have hts : ∀ w ∈ wsL_law, w.before #[Value.ref b] s = true := fun w h => hts0 w (wsL_law_in w h)
  obtain ⟨A, hAe⟩ : ∃ A : Nat → Prop, A = mA (fun _ => 0) 0 s.heap.size := ⟨_, rfl⟩
  have hAn : ∀ a : Nat, a < s.heap.size → ¬ A a := fun a ha h => by
    rw [hAe] at h
    rcases h with ⟨i, hi, -⟩ | h
    · exact absurd hi (Nat.not_lt_zero _)
    · omega
  have hAf : ∀ a : Nat, A a → s.heap.size ≤ a := fun a h => by
    rw [hAe] at h
    rcases h with ⟨i, hi, -⟩ | h
    · exact absurd hi (Nat.not_lt_zero _)
    · exact h
  have hAi : ∀ a : Nat, s.heap.size ≤ a → A a := fun a h => by rw [hAe]; exact Or.inr h
  obtain ⟨⟨k, hK⟩, hao⟩ := law_k (A := A) hts0 hgv hAn
  have hE : mE k (fun _ => 0) 0 A s := ⟨hK, fun i j hi => absurd hi (Nat.not_lt_zero _), fun i hi => absurd hi (Nat.not_lt_zero _), hAi⟩
  have hI : mI k (fun _ => 0) 0 (fun _ => .inr (0, [])) A s s.heap [] := ⟨fun k q h => by simp [mw] at h, va_S.rf⟩
  have hAb : ¬ A b := hAn b hbl
  have hl := lv_entry ([.ref b]) (n := 24) (Nat.le_of_ble_eq_true rfl)
  rw [lg_entry_eq]
  generalize (lg_sl ([.ref b]) ++ List.replicate (24 - (lg_sl ([.ref b])).length) Slot.unset).toArray = ls at hl ⊢
  have hl : lv_has ls 24 [(0, .ref b)] := hl
  refine m_new (ci := 3) (C := RX3) (T := TX3) (N' := 10) (fs := [.null, .null, .null, .int (nI 0), .int (bI false), .int (bI false), .int (nI 0), .int (nI 0), .int (nI 0), .int (nI 0)]) (c1 := 1) (s1 := 10) hx hb hts inlX3 tyX3 tyX3_ok hown (hts (.classLink RL 36 RX3) (by decide +kernel)) (hts (.instantiable RX3 10) (by decide +kernel)) (hts (.initialized RX3) (by decide +kernel)) hE hI rfl (fun j hj => by have h9 : j = 0 ∨ j = 1 ∨ j = 2 ∨ j = 3 ∨ j = 4 ∨ j = 5 ∨ j = 6 ∨ j = 7 ∨ j = 8 ∨ j = 9 := (by omega); rcases h9 with rfl | rfl | rfl | rfl | rfl | rfl | rfl | rfl | rfl | rfl <;> rfl) (by omega) (by omega) (Nat.le_of_ble_eq_true rfl) (Nat.le_of_ble_eq_true rfl) dL_law_0 (fun ad1 H hag1 hE hI => ?_)
  refine lv_dup hx hb dL_law_3 rfl ?_
  refine m_callN (N := 1) (As := []) (rest := [.ref (ad1 0)]) (c1 := 50) (s1 := 1034) ⟨hx, hb, hml, hown, hts⟩ hao hE hI (c_X3_init k l ad1 _ _ (va_up_self _ _ _)) (cwI 0 hts gL_law_X3_init rfl rfl rfl (hts (.initialized RX3) (by decide +kernel)) (hts (.methodLink RL 98 yX3_init) (by decide +kernel)) (hts (.instanceMethod yX3_init) (by decide +kernel)) rfl (by decide +kernel) ⟨Nat.le_of_ble_eq_true rfl, Nat.le_of_ble_eq_true rfl⟩) rfl hl.1 rfl (Nat.le_of_ble_eq_true rfl) dL_law_4 (by omega) (by omega) ⟨Nat.le_of_ble_eq_true rfl, Nat.le_of_ble_eq_true rfl⟩ (fun ad2 g2 H locs hag2 hp hE hI => ?_)
  obtain ⟨r, hC⟩ := hp
  refine m_stk (show ([.ref (ad1 0)] : List Value) = [.ref (ad2 0)] from by rw [hag2 0 (by omega)]) ?_
  refine lv_astore_n (lv' := [(1, .ref (ad2 0)), (0, .ref b)]) hx hb dL_law_7 rfl hl (by decide) rfl (fun ls hl => ?_)
  refine lv_aload_n hx hb dL_law_8 rfl (lv_at hl 0 rfl) ?_
  refine lv_aload_n hx hb dL_law_9 rfl (lv_at hl 1 rfl) ?_
  refine m_callSxq (post := fun (r : Option Nat) (ad1 : Nat → Nat) (N1 : Nat) (g1 : Nat → va_E) => r = some (ad1 50) ∧ (∀ i, i < 50 → ad1 i = ad2 i) ∧ ST k ad1 57 N1 g1 4800) (mc := 19250) (ms := 336461) (As := [.ref (ad2 0), .ref b]) (rest := []) (c1 := 19300) (s1 := 337495) hX hbl hAb ⟨hx, hb, hml, hown, hts⟩ hE hI (c_L_build k l ad2 50 g2 _ b L xs r hst rfl hL hC) (va_cwS 2 hts gL_law_L_build rfl rfl rfl (by decide +kernel) ⟨Nat.le_of_ble_eq_true rfl, Nat.le_of_ble_eq_true rfl⟩) rfl hl.1 rfl (Nat.le_of_ble_eq_true rfl) dL_law_10 (by omega) (by omega) ⟨Nat.le_of_ble_eq_true rfl, Nat.le_of_ble_eq_true rfl⟩ (fun r9 ad3 N3 g3 H locs hp hE hI => ?_)
  obtain ⟨hr9, hA3, hST⟩ := hp
  subst hr9
  show W p l e _ s m _ below meth c _ _ _ _ _ (F0 m 13 _ [.ref (ad3 50)])
  obtain ⟨ap, hap⟩ : ∃ zz, ad3 0 = zz := ⟨_, rfl⟩
  obtain ⟨aS, haS⟩ : ∃ zz, ad3 50 = zz := ⟨_, rfl⟩
  rw [haS]
  have hl : lv_has ls 24 [(1, .ref ap), (0, .ref b)] := by rw [← hap, hA3 0 (by omega)]; exact hl
  refine lv_astore_n (lv' := [(2, .ref aS), (1, .ref ap), (0, .ref b)]) hx hb dL_law_13 rfl hl (by decide) rfl (fun ls hl => ?_)
  refine lv_aload_n hx hb dL_law_14 rfl (lv_at hl 0 rfl) ?_
  refine lv_ifnonnull (tgt := 20) hx hb dL_law_15 (by decide) ?_
  refine lv_iconst (v := nI 0) hx hb dL_law_20 (by decide) ?_
  refine lv_istore_n (lv' := [(3, .int (nI 0)), (2, .ref aS), (1, .ref ap), (0, .ref b)]) hx hb dL_law_21 rfl hl (by decide) rfl (fun ls hl => ?_)
  refine m_cs (c1 := 19300 + 1200 * 0) (s1 := 337495 + 20000 * 0) (by omega) (by omega) ?_
  refine m_loopG (σ := Nat × (Nat → Nat) × Nat × (Nat → va_E)) (fun x H locs ls => x.1 ≤ 44 ∧ mE k x.2.1 x.2.2.1 A s ∧ mI k x.2.1 x.2.2.1 x.2.2.2 A s H locs ∧ ST k x.2.1 57 x.2.2.1 x.2.2.2 (4800 + 300 * x.1) ∧ x.2.1 0 = ap ∧ x.2.1 50 = aS ∧ lv_has ls 24 [(0, .ref b), (1, .ref ap), (2, .ref aS), (3, .int (nI x.1))]) (fun x => 44 - x.1) (fun x => 19300 + 1200 * x.1) (fun x => 337495 + 20000 * x.1) (0, ad3, N3, g3) ⟨Nat.zero_le _, hE, hI, hST, hap, haS, lv_sub hl [3, 2, 1, 0] rfl⟩ ?_
  rintro ⟨t, ad4, N4, g4⟩ ih H locs ls ⟨ht, hE, hI, hST, hap, haS, hl⟩
  have ht : t ≤ 44 := ht
  have hE : mE k ad4 N4 A s := hE
  have hI : mI k ad4 N4 g4 A s H locs := hI
  have hST : ST k ad4 57 N4 g4 (4800 + 300 * t) := hST
  have hap : ad4 0 = ap := hap
  have haS : ad4 50 = aS := haS
  have hl : lv_has ls 24 [(0, .ref b), (1, .ref ap), (2, .ref aS), (3, .int (nI t))] := hl
  show W p l e _ s m _ below meth c _ _ (19300 + 1200 * t) (337495 + 20000 * t) _ _
  refine lv_iload_n hx hb dL_law_22 rfl (lv_at hl 3 rfl) ?_
  refine lv_bipush (v := nI 44) hx hb dL_law_23 (by decide) ?_
  refine m_cgeN (tgt := 862) hx hb (by omega) (by omega) dL_law_25 (by decide) (fun c_25 => ?_) (fun c_25 => ?_)
  · refine W.base ?_
    have hd0 := Drawn.sameBut.refl s.drawn lw_cs
    have hts := dr_words hts s.drawn
    have hE : mE k ad4 N4 A (s.setDrawn s.drawn) := mE.drawn hE s.drawn
    have hI : mI k ad4 N4 g4 A (s.setDrawn s.drawn) H locs := hI
    refine lv_aload_n hx hb dL_law_862 rfl (lv_at hl 2 rfl) ?_
    refine lv_aload_n hx hb dL_law_863 rfl (lv_at hl 1 rfl) ?_
    refine m_stk (show ([.ref ap, .ref aS] : List Value) = [.ref (ad4 0), .ref (ad4 50)] from by rw [hap, haS]) ?_
    have hN50 : 50 < N4 := by obtain ⟨_, _, _, _, _, _, _, _, _, _, _, hSR, _⟩ := hST; have h1 := hSR.1; omega
    have h50 : ∃ fs, g4 50 = .inr (4, fs) := by obtain ⟨_, _, _, _, _, _, _, _, _, _, _, hSR, _⟩ := hST; exact ⟨_, hSR.2.1⟩
    obtain ⟨fs, h50⟩ := h50
    refine va_calliD hd0 (va_runV_D (As := [.ref (ad4 0)]) (rest := []) ⟨hx, hb, hml, hown, hts⟩ (c_X4_isSame k l ad4 N4 g4 _ 57 (4800 + 300 * t) hst (by omega) hST) (cwV 1 hts gL_law_X4_isSame rfl rfl rfl (by decide +kernel) ⟨Nat.le_of_ble_eq_true rfl, Nat.le_of_ble_eq_true rfl⟩) (m_preV (ci := 4) (i := 50) hE hI hN50 h50 rfl) rfl rfl hl.1 rfl (lv_room (Nat.le_of_ble_eq_true rfl)) dL_law_864 ⟨by show 19300 + 1200 * t + 1073 ≤ 600130; omega, by show 337495 + 20000 * t + 6558 ≤ 7301080; omega⟩) hI.2 (fun q _ h => mA_sub hE hI q h) (mA_sub hE hI) (fun r9 u9 t9 H1 locs1 ht9 hvm hp hB hz hk hS d1 hd1 => ?_)
    refine m_top (show r9 = 1 from hp.trans rfl) ?_
    refine va_forget (fun q hq => hAf _ (hS.2.2 q hq)) ?_
    refine W.widen (k := 600130) (n := 7301080) (by omega) (by omega) ?_
    exact lw_ret hd1 hx hb hr hlocks dL_law_867
  · exact law_turn l k hst hx hb hml hown hts hX hbl hAb hL ad4 N4 g4 H locs ls ap aS t (4800 + 300 * t) (19300 + 1200 * t) (337495 + 20000 * t) (by omega) (by omega) (by omega) (by omega) hE hI hST hap haS hl (fun ad5 N5 g5 H5 locs5 ls5 hE5 hI5 hST5 hap5 haS5 hl5 => m_cs (c1 := 19300 + 1200 * (t + 1)) (s1 := 337495 + 20000 * (t + 1)) (by omega) (by omega) (ih (t + 1, ad5, N5, g5) (by show 44 - (t + 1) < 44 - t; omega) _ _ _ ⟨(show t + 1 ≤ 44 by omega), hE5, hI5, (show ST k ad5 57 N5 g5 (4800 + 300 * (t + 1)) from ST.le hST5 (by omega)), hap5, haS5, hl5⟩))
