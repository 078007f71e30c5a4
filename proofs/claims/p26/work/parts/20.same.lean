/-! Whether the two machines are the same in the end. -/
def sumL (ln : Nat → Nat) : Nat → Nat
  | 0 => 0
  | m + 1 => sumL ln m + ln m
theorem PgS_sum {fi u : Nat} {z : Nat → Nat} {F : Nat → Nat → Nat} {u' : Nat} {ln : Nat → Nat} {pg : Nat → Nat → Nat} (h : PgS (fi, u, z, F) (u', ln, pg)) (m : Nat) (hm : m ≤ u) : sumz z fi m = sumL ln m := by
  have h2 : ∀ l, l < u → z (slt fi l) = ln l := h.2.1
  induction m with
  | zero => rfl
  | succ m ih =>
    show sumz z fi m + z (slt fi m) = sumL ln m + ln m
    rw [ih (by omega), h2 m (by omega)]
theorem sumL_le {ln : Nat → Nat} {u : Nat} (h : ∀ l, l < u → ln l ≤ 40) (m : Nat) (hm : m ≤ u) : sumL ln m ≤ 40 * m := by
  induction m with
  | zero => exact Nat.le_refl _
  | succ m ih =>
    have h1 := ih (by omega)
    have h2 := h m (by omega)
    show sumL ln m + ln m ≤ 40 * (m + 1)
    omega
theorem mOfDG {k : mC} {l : Launch} {y : MethodName} {ws ws' : List Cond} {rm : Room} {ad : Nat → Nat} {N : Nat} {g : Nat → va_E} {sz mc ms : Nat} {av : List Value} {cc : ByteArray} {maxL : Nat} {ret : Option FieldType} {Qc : Nat → Array Value → State → Outcome → State → Prop}
    (hy : plainName y.cls = true) (hw : ws = Cond.code y cc maxL ret :: ws') (hav : (lg_sl av).length ≤ maxL)
    (body : ∀ (p : Program) (e : Env) (s : State) (m : MethodId) (below : List Frame) (meth : Method) (c : Code), p.tables.exec = Jvm.exec → c.code = cc → meth.sig.returnType = ret → (∀ d : Drawn, ∀ w ∈ ws, w.before av.toArray (s.setDrawn d) = true) → s.vm.findClass y.cls = some m.cls → meth.locks = false → c.maxLocals = maxL → s.drawn.sameBut s.drawn lw_cs → ∀ (H : Heap) (locs : List Loc), H = s.heap →
      mE k ad N (mA ad N s.heap.size) s → mI k ad N g (mA ad N s.heap.size) s H locs → ∀ ls : Array Slot, lv_has ls maxL (lv_args 0 av) →
      W p l e rm s m av.toArray below meth c H locs 0 0 (MQD lw_cs below (Qc s.heap.size) av.toArray s mc ms (mA ad N s.heap.size)) (F0 m 0 ls [])) :
    MetD lw_cs l y ws rm (mPc k ad N g sz av) (Qc sz) mc ms (mA ad N sz) := by
  refine MetD.ofW (cc := cc) (maxL := maxL) (ret := ret) hy hw ?_
  intro p e s m args below meth c s₁ B hml hv hd0
  obtain ⟨rfl, hsz, hK, hP, hJ⟩ := hv
  subst hsz
  rw [lg_entry_eq]
  exact body p e s m below meth c B.exec B.bytes B.returns (fun d => dr_words (atoms_spec (ws := ws) B.pre) d) (findClass_of_methodNamed B.named) B.notSynchronized hml hd0 _ [] rfl ⟨hK, hJ, fun i hi => Or.inl ⟨i, hi, rfl⟩, fun q hq => Or.inr hq⟩ ⟨hP, va_S.rf⟩ _ (lv_entry av hav)

set_option maxHeartbeats 8000000 in
set_option maxRecDepth 100000 in
theorem c_X4_isSame (k : mC) (l : Launch) (ad : Nat → Nat) (N : Nat) (g : Nat → va_E) (sz : Nat) (bs cm : Nat) (hst : l.stackTraces = false) (hcm : cm ≤ 100000) (hST : ST k ad bs N g cm) : MetD lw_cs l yX4_isSame wsX4_isSame { frames := 7, cells := 1073, slots := 6558, locals := 105 } (mPc k ad N g sz [.ref (ad 50), .ref (ad 0)]) (va_Qi (S := Unit) (fun r9 _ => r9 = bI true) (fun _ _ => True) (mA ad N sz)) 1073 6558 (mA ad N sz) := by
  refine mOfDG (Qc := fun z9 => va_Qi (S := Unit) (fun r9 _ => r9 = bI true) (fun _ _ => True) (mA ad N z9)) (cc := cX4_isSame) (maxL := 6) (ret := (some .boolean)) (by decide) rfl (Nat.le_of_ble_eq_true rfl) ?_
  intro p e s m below meth c hx hb hr hts9 hown hlocks hml hd0 H locs hH hE hI ls hl
  have hts : ∀ w ∈ wsX4_isSame, w.before [Value.ref (ad 50), Value.ref (ad 0)].toArray s = true := hts9 s.drawn
  have hl : lv_has ls 6 [(0, .ref (ad 50)), (1, .ref (ad 0))] := hl
  obtain ⟨uns, play, rd, n, lat, gar, T, ⟨came, mis, lost, bel, fig, fi, u, z, F⟩, ⟨came1, mis1, lost1, bel1, fig1, u1, ln, pg⟩, r, hC, hS, hW, hwf, hwv, hYR, hcm9⟩ := hST
  obtain ⟨e1, e2, e3, e4, e5, e6⟩ := id hYR
  have e1 : came = came1 := e1
  subst e1
  have e2 : mis = mis1 := e2
  subst e2
  have e3 : lost = lost1 := e3
  subst e3
  have e4 : bel = bel1 := e4
  subst e4
  have e5 : fig = fig1 := e5
  subst e5
  have e7 : u = u1 := e6.1.symm
  subst e7
  have hcm9 : came ≤ cm := hcm9
  have hwf : cWf (fi, u, z, F) := hwf
  have hwv : sWf (u, ln, pg) := hwv
  have hC : CR k ad g uns play rd n lat gar T (came, mis, lost, bel, fig, fi, u, z, F) r := hC
  have hS : SR k ad bs N g uns play rd n lat gar T (came, mis, lost, bel, fig, u, ln, pg) := hS
  have hbs : 57 ≤ bs := hS.1.1
  have hNu : bs + u ≤ N := hS.1.2
  have hF : FRA ad g bs ad g := FRA.rf
  obtain ⟨hpl9, hrd9, hn120, hgar9, hT, hlat9⟩ := id hW
  obtain ⟨ap, hap⟩ : ∃ zz, ad 0 = zz := ⟨_, rfl⟩
  obtain ⟨aS, haS⟩ : ∃ zz, ad 50 = zz := ⟨_, rfl⟩
  have hl : lv_has ls 6 [(0, .ref aS), (1, .ref ap)] := by rw [← hap, ← haS]; exact hl
  have hu0 : 0 < u := hwv.1
  have hu20 : u ≤ 20 := hwv.2.1
  have hln : ∀ l, l < u → ln l ≤ 40 := hwv.2.2
  have hpgl : ∀ l, l < u → z (slt fi l) = ln l := e6.2.1
  have hpgc : ∀ l, l < u → ∀ i, i < ln l → F (slt fi l) i = pg l i := e6.2.2
  have hsum : sumz z fi u = sumL ln u := PgS_sum e6 u (Nat.le_refl _)
  have hsu := sumL_le hln u (Nat.le_refl _)
  refine lv_iconst (v := nI 0) hx hb dX4_isSame_0 (by decide) ?_
  refine lv_istore_n (lv' := [(2, .int (nI 0)), (0, .ref aS), (1, .ref ap)]) hx hb dX4_isSame_1 rfl hl (by decide) rfl (fun ls hl => ?_)
  refine lv_iconst (v := nI 0) hx hb dX4_isSame_2 (by decide) ?_
  refine lv_istore_n (lv' := [(3, .int (nI 0)), (2, .int (nI 0)), (0, .ref aS), (1, .ref ap)]) hx hb dX4_isSame_3 rfl hl (by decide) rfl (fun ls hl => ?_)
  refine m_loopC (σ := Nat) (fun l9 => l9 ≤ u) (fun l9 => u - l9) (fun l9 => 41 * l9) (fun l9 => 246 * l9) (fun l9 => g) (fun l9 => [(0, .ref aS), (1, .ref ap), (2, .int (nI (sumL ln l9))), (3, .int (nI l9))]) (nL := 6) 0 (Nat.zero_le _) hI (lv_sub hl [2, 3, 1, 0] rfl) ?_
  rintro l9 hl9 ih4 H locs ls hI hl
  have hI : mI k ad N g (mA ad N s.heap.size) s H locs := hI
  have hl : lv_has ls 6 [(0, .ref aS), (1, .ref ap), (2, .int (nI (sumL ln l9))), (3, .int (nI l9))] := hl
  show W p l e _ s m _ below meth c _ _ (41 * l9) (246 * l9) _ _
  refine lv_iload_n hx hb dX4_isSame_4 rfl (lv_at hl 3 rfl) ?_
  refine lv_aload_n hx hb dX4_isSame_5 rfl (lv_at hl 0 rfl) ?_
  refine m_stk (show ([.ref aS, .int (nI l9)] : List Value) = [.ref (ad 50), .int (nI l9)] from by rw [haS]) ?_
  refine m_get (ci := 4) (C := RX4) (T := TX4) (N' := 14) hx hb hts (by decide +kernel) hown hE hI 50 (by omega) (show g 50 = .inr (4, [.ref (ad 51), .ref (ad 52), .ref (ad 53), .int (bI fig), .int (bI uns), .int (nI play), .ref (ad 54), .ref (ad 55), .ref (ad 56), .int (nI rd), .int (nI came), .int mis, .int lost, .int bel]) from hS.2.1) rfl 2 (by decide) (hts (.fieldLink RX4 23 "TapePrinterLaw$Sim" "page" "[[I") (by decide +kernel)) rfl dX4_isSame_6 ?_
  refine m_alen2 hx hb hE hI 53 (by omega) (show g 53 = .inl (k.2.1.2.2.2, u, .inr (.inr (.inr (.inr (pgF ad bs u))))) from hS.2.2.2.2.1) dX4_isSame_9 ?_
  refine m_cgeN (tgt := 88) hx hb (by omega) (by omega) dX4_isSame_10 (by decide) (fun c_10 => ?_) (fun c_10 => ?_)
  · have hl9u : l9 = u := by omega
    refine W.widen (k := 820) (n := 4920) (by omega) (by omega) ?_
    have hl : lv_has ls 6 [(0, .ref aS), (1, .ref ap), (2, .int (nI (sumL ln u))), (3, .int (nI l9))] := by rw [← hl9u]; exact hl
    refine lv_aload_n hx hb dX4_isSame_88 rfl (lv_at hl 0 rfl) ?_
    refine m_stk (show ([.ref aS] : List Value) = [.ref (ad 50)] from by rw [haS]) ?_
    refine m_callVgq (As := []) (rest := []) (c1 := 821) (s1 := 4920 + (n + 1)) ⟨hx, hb, hml, hown, hts⟩ hE hI (c_X4_shifts k l ad N g _ uns play rd n lat gar T came mis lost bel fig u ln pg bs (by omega) (hW.2.2.2.2.1) hS) (cwV 0 hts gX4_isSame_X4_shifts rfl rfl rfl (by decide +kernel) ⟨Nat.le_of_ble_eq_true rfl, Nat.le_of_ble_eq_true rfl⟩) (i := 50) (by omega) (show g 50 = .inr (4, [.ref (ad 51), .ref (ad 52), .ref (ad 53), .int (bI fig), .int (bI uns), .int (nI play), .ref (ad 54), .ref (ad 55), .ref (ad 56), .int (nI rd), .int (nI came), .int mis, .int lost, .int bel]) from hS.2.1) rfl rfl hl.1 rfl (Nat.le_of_ble_eq_true rfl) dX4_isSame_89 (by omega) (by omega) ⟨(by show _ ≤ 1073; omega), (by show _ ≤ 6558; omega)⟩ (fun r9 ad1 N1 g9 H locs hp hE hI => ?_)
    obtain ⟨g1, hg1⟩ : ∃ zz, zz = g9 := ⟨_, rfl⟩
    rw [← hg1] at hp hI
    obtain ⟨hr1, hn1, hag1, hgg1, hnw1⟩ := hp
    subst hn1
    have hE : mE k ad1 (N + 1) (mA ad N s.heap.size) s := hE
    have hI : mI k ad1 (N + 1) g1 (mA ad N s.heap.size) s H locs := hI
    subst hr1
    replace hgg1 : ∀ i, i < N → g1 i = g i := hgg1
    have hap : ad1 0 = ap := by rw [hag1 0 (by omega)]; exact hap
    have haS : ad1 50 = aS := by rw [hag1 50 (by omega)]; exact haS
    have hS : SR k ad1 bs (N + 1) g1 uns play rd n lat gar T (came, mis, lost, bel, fig, u, ln, pg) := SR.grow hS (by omega) (fun i hi => hag1 i (by omega)) (fun i hi => hgg1 i (by omega))
    have hC : CR k ad1 g1 uns play rd n lat gar T (came, mis, lost, bel, fig, fi, u, z, F) r := CR.moved hC (fun i hi => hag1 i (by omega)) (fun i hi => hgg1 i (by omega))
    have hnw1 : g1 N = .inl (k.2.1.2.2.1, (n + 1), .inl (fun j => bI (fa uns T j))) := hnw1
    show W p l e _ s m _ below meth c _ _ _ _ _ (F0 m _ _ (.ref (ad1 N) :: _))
    refine lv_astore_n (lv' := [(3, .ref (ad1 N)), (0, .ref aS), (1, .ref ap), (2, .int (nI (sumL ln u)))]) hx hb dX4_isSame_92 rfl hl (by decide) rfl (fun ls hl => ?_)
    refine lv_iconst (v := nI 0) hx hb dX4_isSame_93 (by decide) ?_
    refine lv_istore (lv' := [(4, .int (nI 0)), (3, .ref (ad1 N)), (0, .ref aS), (1, .ref ap), (2, .int (nI (sumL ln u)))]) hx hb dX4_isSame_94 hl (by decide) rfl (fun ls hl => ?_)
    refine W.widen (k := 821) (n := 5041) (by omega) (by omega) ?_
    refine m_loopC (σ := Nat) (fun k9 => k9 ≤ n) (fun k9 => n - k9) (fun k9 => 821 + 2 * k9) (fun k9 => 5041 + 12 * k9) (fun k9 => g1) (fun k9 => [(0, .ref aS), (1, .ref ap), (2, .int (nI (sumL ln u))), (3, .ref (ad1 N)), (4, .int (nI k9))]) (nL := 6) 0 (Nat.zero_le _) hI (lv_sub hl [2, 3, 4, 1, 0] rfl) ?_
    rintro k9 hk9 ih96 H locs ls hI hl
    have hI : mI k ad1 (N + 1) g1 (mA ad N s.heap.size) s H locs := hI
    have hl : lv_has ls 6 [(0, .ref aS), (1, .ref ap), (2, .int (nI (sumL ln u))), (3, .ref (ad1 N)), (4, .int (nI k9))] := hl
    show W p l e _ s m _ below meth c _ _ (821 + 2 * k9) (5041 + 12 * k9) _ _
    have hT9 := hT k9
    have hq1 := chF_le _ hT9 (fa uns T k9)
    have hq2 := chF_le _ hT9 false
    have hq3 := chF_le _ hT9 true
    refine lv_iload hx hb dX4_isSame_96 (lv_at hl 4 rfl) ?_
    refine lv_aload_n hx hb dX4_isSame_98 rfl (lv_at hl 0 rfl) ?_
    refine m_stk (show ([.ref aS, .int (nI k9)] : List Value) = [.ref (ad1 50), .int (nI k9)] from by rw [haS]) ?_
    refine m_get (ci := 4) (C := RX4) (T := TX4) (N' := 14) hx hb hts (by decide +kernel) hown hE hI 50 (by omega) (show g1 50 = .inr (4, [.ref (ad1 51), .ref (ad1 52), .ref (ad1 53), .int (bI fig), .int (bI uns), .int (nI play), .ref (ad1 54), .ref (ad1 55), .ref (ad1 56), .int (nI rd), .int (nI came), .int mis, .int lost, .int bel]) from hS.2.1) rfl 8 (by decide) (hts (.fieldLink RX4 33 "TapePrinterLaw$Sim" "tape" "[I") (by decide +kernel)) rfl dX4_isSame_99 ?_
    refine m_aleni hx hb hE hI 56 (by omega) (show g1 56 = .inl (k.2.1.1, n, .inl (fun j => nI (T j))) from hS.2.2.2.2.2.2.2.1) dX4_isSame_102 ?_
    refine m_cgeN (tgt := 173) hx hb (by omega) (by omega) dX4_isSame_103 (by decide) (fun c_103 => ?_) (fun c_103 => ?_)
    · refine W.widen (k := 1061) (n := 6481) (by omega) (by omega) ?_
      refine lv_bipush (v := nI 11) hx hb dX4_isSame_173 (by decide) ?_
      refine m_newi (n := 11) (c1 := 1062) (s1 := 6492) hx hb (hts (.arrayClass .int) (by decide +kernel)) hE hI (by omega) (by omega) (by omega) (by show _ ≤ 1073; omega) (by show _ ≤ 6558; omega) dX4_isSame_175 (fun ad2 H hag2 hE hI => ?_)
      obtain ⟨g2, hg2⟩ : ∃ zz, zz = va_up g1 (N + 1) (.inl (k.2.1.1, 11, .inl (fun _ => nI 0))) := ⟨_, rfl⟩
      have hE : mE k ad2 (N + 2) (mA ad N s.heap.size) s := hE
      replace hI : mI k ad2 (N + 2) g2 (mA ad N s.heap.size) s H locs := by rw [hg2]; exact hI
      have hgg2 : ∀ i, i < N + 1 → g2 i = g1 i := fun i hi => by rw [hg2, va_up_ne _ _ (by omega)]
      have hap : ad2 0 = ap := by rw [hag2 0 (by omega)]; exact hap
      have haS : ad2 50 = aS := by rw [hag2 50 (by omega)]; exact haS
      have hS : SR k ad2 bs (N + 2) g2 uns play rd n lat gar T (came, mis, lost, bel, fig, u, ln, pg) := SR.grow hS (by omega) (fun i hi => hag2 i (by omega)) (fun i hi => hgg2 i (by omega))
      have hC : CR k ad2 g2 uns play rd n lat gar T (came, mis, lost, bel, fig, fi, u, z, F) r := CR.moved hC (fun i hi => hag2 i (by omega)) (fun i hi => hgg2 i (by omega))
      have hnw1 : g2 N = .inl (k.2.1.2.2.1, (n + 1), .inl (fun j => bI (fa uns T j))) := by rw [hgg2 _ (by omega)]; exact hnw1
      have hl : lv_has ls 6 [(0, .ref aS), (1, .ref ap), (2, .int (nI (sumL ln u))), (3, .ref (ad2 N)), (4, .int (nI k9))] := by rw [hag2 N (by omega)]; exact hl
      have hnw2 : g2 (N + 1) = .inl (k.2.1.1, 11, .inl (fun _ => nI 0)) := by rw [hg2, va_up_self]
      refine lv_dup hx hb dX4_isSame_177 rfl ?_
      refine lv_iconst (v := nI 0) hx hb dX4_isSame_178 (by decide) ?_
      refine lv_aload_n hx hb dX4_isSame_179 rfl (lv_at hl 0 rfl) ?_
      refine m_stk (show ([.ref aS, .int (nI 0), .ref (ad2 (N + 1)), .ref (ad2 (N + 1))] : List Value) = [.ref (ad2 50), .int (nI 0), .ref (ad2 (N + 1)), .ref (ad2 (N + 1))] from by rw [haS]) ?_
      refine m_get (ci := 4) (C := RX4) (T := TX4) (N' := 14) hx hb hts (by decide +kernel) hown hE hI 50 (by omega) (show g2 50 = .inr (4, [.ref (ad2 51), .ref (ad2 52), .ref (ad2 53), .int (bI fig), .int (bI uns), .int (nI play), .ref (ad2 54), .ref (ad2 55), .ref (ad2 56), .int (nI rd), .int (nI came), .int mis, .int lost, .int bel]) from hS.2.1) rfl 2 (by decide) (hts (.fieldLink RX4 23 "TapePrinterLaw$Sim" "page" "[[I") (by decide +kernel)) rfl dX4_isSame_180 ?_
      refine m_alen2 hx hb hE hI 53 (by omega) (show g2 53 = .inl (k.2.1.2.2.2, u, .inr (.inr (.inr (.inr (pgF ad2 bs u))))) from hS.2.2.2.2.1) dX4_isSame_183 ?_
      refine m_iast hx hb hE hI (N + 1) (by omega) (j := 0) hnw2 (by omega) (by omega) dX4_isSame_184 (fun H locs hI => ?_)
      obtain ⟨g3, hg3⟩ : ∃ zz, zz = va_up g2 (N + 1) (.inl (k.2.1.1, 11, .inl (upd (fun _ => nI 0) 0 (nI u)))) := ⟨_, rfl⟩
      replace hI : mI k ad2 (N + 2) g3 (mA ad N s.heap.size) s H locs := by rw [hg3]; exact hI
      have hS : SR k ad2 bs (N + 2) g3 uns play rd n lat gar T (came, mis, lost, bel, fig, u, ln, pg) := by rw [hg3]; exact SR.off hS (by omega)
      have hC : CR k ad2 g3 uns play rd n lat gar T (came, mis, lost, bel, fig, fi, u, z, F) r := by rw [hg3]; exact CR.kept hC (fun i hi => va_up_ne _ _ (by omega))
      have hnw1 : g3 N = .inl (k.2.1.2.2.1, (n + 1), .inl (fun j => bI (fa uns T j))) := by rw [hg3, va_up_ne _ _ (by omega)]; exact hnw1
      have hnw2 : g3 (N + 1) = .inl (k.2.1.1, 11, .inl (upd (fun _ => nI 0) 0 (nI u))) := by rw [hg3, va_up_self]
      refine lv_dup hx hb dX4_isSame_185 rfl ?_
      refine lv_iconst (v := nI 1) hx hb dX4_isSame_186 (by decide) ?_
      refine lv_iload_n hx hb dX4_isSame_187 rfl (lv_at hl 2 rfl) ?_
      refine m_iast hx hb hE hI (N + 1) (by omega) (j := 1) hnw2 (by omega) (by omega) dX4_isSame_188 (fun H locs hI => ?_)
      obtain ⟨g4, hg4⟩ : ∃ zz, zz = va_up g3 (N + 1) (.inl (k.2.1.1, 11, .inl (upd (upd (fun _ => nI 0) 0 (nI u)) 1 (nI (sumL ln u))))) := ⟨_, rfl⟩
      replace hI : mI k ad2 (N + 2) g4 (mA ad N s.heap.size) s H locs := by rw [hg4]; exact hI
      have hS : SR k ad2 bs (N + 2) g4 uns play rd n lat gar T (came, mis, lost, bel, fig, u, ln, pg) := by rw [hg4]; exact SR.off hS (by omega)
      have hC : CR k ad2 g4 uns play rd n lat gar T (came, mis, lost, bel, fig, fi, u, z, F) r := by rw [hg4]; exact CR.kept hC (fun i hi => va_up_ne _ _ (by omega))
      have hnw1 : g4 N = .inl (k.2.1.2.2.1, (n + 1), .inl (fun j => bI (fa uns T j))) := by rw [hg4, va_up_ne _ _ (by omega)]; exact hnw1
      have hnw2 : g4 (N + 1) = .inl (k.2.1.1, 11, .inl (upd (upd (fun _ => nI 0) 0 (nI u)) 1 (nI (sumL ln u)))) := by rw [hg4, va_up_self]
      refine lv_dup hx hb dX4_isSame_189 rfl ?_
      refine lv_iconst (v := nI 2) hx hb dX4_isSame_190 (by decide) ?_
      refine lv_aload_n hx hb dX4_isSame_191 rfl (lv_at hl 0 rfl) ?_
      refine m_stk (show ([.ref aS, .int (nI 2), .ref (ad2 (N + 1)), .ref (ad2 (N + 1))] : List Value) = [.ref (ad2 50), .int (nI 2), .ref (ad2 (N + 1)), .ref (ad2 (N + 1))] from by rw [haS]) ?_
      refine m_get (ci := 4) (C := RX4) (T := TX4) (N' := 14) hx hb hts (by decide +kernel) hown hE hI 50 (by omega) (show g4 50 = .inr (4, [.ref (ad2 51), .ref (ad2 52), .ref (ad2 53), .int (bI fig), .int (bI uns), .int (nI play), .ref (ad2 54), .ref (ad2 55), .ref (ad2 56), .int (nI rd), .int (nI came), .int mis, .int lost, .int bel]) from hS.2.1) rfl 3 (by decide) (hts (.fieldLink RX4 57 "TapePrinterLaw$Sim" "isFigures" "Z") (by decide +kernel)) rfl dX4_isSame_192 ?_
      refine m_via hI 203 ([.int (bI fig), .int (nI 2), .ref (ad2 (N + 1)), .ref (ad2 (N + 1))]) (fun K => ?_) (fun H locs hI => ?_)
      · refine m_zeqB (tgt := 202) hx hb dX4_isSame_195 (by decide) (fun c_195 => ?_) (fun c_195 => ?_)
        · refine lv_iconst (v := nI 0) hx hb dX4_isSame_202 (by decide) ?_
          refine m_top (show nI 0 = bI fig from by rw [c_195] <;> rfl) ?_
          exact K H locs hI
        · refine lv_iconst (v := nI 1) hx hb dX4_isSame_198 (by decide) ?_
          refine lv_goto (tgt := 203) hx hb dX4_isSame_199 (by decide) ?_
          refine m_top (show nI 1 = bI fig from by rw [c_195] <;> rfl) ?_
          exact K H locs hI
      refine m_iast hx hb hE hI (N + 1) (by omega) (j := 2) hnw2 (by omega) (by omega) dX4_isSame_203 (fun H locs hI => ?_)
      obtain ⟨g5, hg5⟩ : ∃ zz, zz = va_up g4 (N + 1) (.inl (k.2.1.1, 11, .inl (upd (upd (upd (fun _ => nI 0) 0 (nI u)) 1 (nI (sumL ln u))) 2 (bI fig)))) := ⟨_, rfl⟩
      replace hI : mI k ad2 (N + 2) g5 (mA ad N s.heap.size) s H locs := by rw [hg5]; exact hI
      have hS : SR k ad2 bs (N + 2) g5 uns play rd n lat gar T (came, mis, lost, bel, fig, u, ln, pg) := by rw [hg5]; exact SR.off hS (by omega)
      have hC : CR k ad2 g5 uns play rd n lat gar T (came, mis, lost, bel, fig, fi, u, z, F) r := by rw [hg5]; exact CR.kept hC (fun i hi => va_up_ne _ _ (by omega))
      have hnw1 : g5 N = .inl (k.2.1.2.2.1, (n + 1), .inl (fun j => bI (fa uns T j))) := by rw [hg5, va_up_ne _ _ (by omega)]; exact hnw1
      have hnw2 : g5 (N + 1) = .inl (k.2.1.1, 11, .inl (upd (upd (upd (fun _ => nI 0) 0 (nI u)) 1 (nI (sumL ln u))) 2 (bI fig))) := by rw [hg5, va_up_self]
      refine lv_dup hx hb dX4_isSame_204 rfl ?_
      refine lv_iconst (v := nI 3) hx hb dX4_isSame_205 (by decide) ?_
      refine lv_aload_n hx hb dX4_isSame_206 rfl (lv_at hl 0 rfl) ?_
      refine m_stk (show ([.ref aS, .int (nI 3), .ref (ad2 (N + 1)), .ref (ad2 (N + 1))] : List Value) = [.ref (ad2 50), .int (nI 3), .ref (ad2 (N + 1)), .ref (ad2 (N + 1))] from by rw [haS]) ?_
      refine m_get (ci := 4) (C := RX4) (T := TX4) (N' := 14) hx hb hts (by decide +kernel) hown hE hI 50 (by omega) (show g5 50 = .inr (4, [.ref (ad2 51), .ref (ad2 52), .ref (ad2 53), .int (bI fig), .int (bI uns), .int (nI play), .ref (ad2 54), .ref (ad2 55), .ref (ad2 56), .int (nI rd), .int (nI came), .int mis, .int lost, .int bel]) from hS.2.1) rfl 5 (by decide) (hts (.fieldLink RX4 36 "TapePrinterLaw$Sim" "play" "I") (by decide +kernel)) rfl dX4_isSame_207 ?_
      refine m_iast hx hb hE hI (N + 1) (by omega) (j := 3) hnw2 (by omega) (by omega) dX4_isSame_210 (fun H locs hI => ?_)
      obtain ⟨g6, hg6⟩ : ∃ zz, zz = va_up g5 (N + 1) (.inl (k.2.1.1, 11, .inl (upd (upd (upd (upd (fun _ => nI 0) 0 (nI u)) 1 (nI (sumL ln u))) 2 (bI fig)) 3 (nI play)))) := ⟨_, rfl⟩
      replace hI : mI k ad2 (N + 2) g6 (mA ad N s.heap.size) s H locs := by rw [hg6]; exact hI
      have hS : SR k ad2 bs (N + 2) g6 uns play rd n lat gar T (came, mis, lost, bel, fig, u, ln, pg) := by rw [hg6]; exact SR.off hS (by omega)
      have hC : CR k ad2 g6 uns play rd n lat gar T (came, mis, lost, bel, fig, fi, u, z, F) r := by rw [hg6]; exact CR.kept hC (fun i hi => va_up_ne _ _ (by omega))
      have hnw1 : g6 N = .inl (k.2.1.2.2.1, (n + 1), .inl (fun j => bI (fa uns T j))) := by rw [hg6, va_up_ne _ _ (by omega)]; exact hnw1
      have hnw2 : g6 (N + 1) = .inl (k.2.1.1, 11, .inl (upd (upd (upd (upd (fun _ => nI 0) 0 (nI u)) 1 (nI (sumL ln u))) 2 (bI fig)) 3 (nI play))) := by rw [hg6, va_up_self]
      refine lv_dup hx hb dX4_isSame_211 rfl ?_
      refine lv_iconst (v := nI 4) hx hb dX4_isSame_212 (by decide) ?_
      refine lv_aload_n hx hb dX4_isSame_213 rfl (lv_at hl 0 rfl) ?_
      refine m_stk (show ([.ref aS, .int (nI 4), .ref (ad2 (N + 1)), .ref (ad2 (N + 1))] : List Value) = [.ref (ad2 50), .int (nI 4), .ref (ad2 (N + 1)), .ref (ad2 (N + 1))] from by rw [haS]) ?_
      refine m_get (ci := 4) (C := RX4) (T := TX4) (N' := 14) hx hb hts (by decide +kernel) hown hE hI 50 (by omega) (show g6 50 = .inr (4, [.ref (ad2 51), .ref (ad2 52), .ref (ad2 53), .int (bI fig), .int (bI uns), .int (nI play), .ref (ad2 54), .ref (ad2 55), .ref (ad2 56), .int (nI rd), .int (nI came), .int mis, .int lost, .int bel]) from hS.2.1) rfl 8 (by decide) (hts (.fieldLink RX4 33 "TapePrinterLaw$Sim" "tape" "[I") (by decide +kernel)) rfl dX4_isSame_214 ?_
      refine m_aleni hx hb hE hI 56 (by omega) (show g6 56 = .inl (k.2.1.1, n, .inl (fun j => nI (T j))) from hS.2.2.2.2.2.2.2.1) dX4_isSame_217 ?_
      refine m_iast hx hb hE hI (N + 1) (by omega) (j := 4) hnw2 (by omega) (by omega) dX4_isSame_218 (fun H locs hI => ?_)
      obtain ⟨g7, hg7⟩ : ∃ zz, zz = va_up g6 (N + 1) (.inl (k.2.1.1, 11, .inl (upd (upd (upd (upd (upd (fun _ => nI 0) 0 (nI u)) 1 (nI (sumL ln u))) 2 (bI fig)) 3 (nI play)) 4 (nI n)))) := ⟨_, rfl⟩
      replace hI : mI k ad2 (N + 2) g7 (mA ad N s.heap.size) s H locs := by rw [hg7]; exact hI
      have hS : SR k ad2 bs (N + 2) g7 uns play rd n lat gar T (came, mis, lost, bel, fig, u, ln, pg) := by rw [hg7]; exact SR.off hS (by omega)
      have hC : CR k ad2 g7 uns play rd n lat gar T (came, mis, lost, bel, fig, fi, u, z, F) r := by rw [hg7]; exact CR.kept hC (fun i hi => va_up_ne _ _ (by omega))
      have hnw1 : g7 N = .inl (k.2.1.2.2.1, (n + 1), .inl (fun j => bI (fa uns T j))) := by rw [hg7, va_up_ne _ _ (by omega)]; exact hnw1
      have hnw2 : g7 (N + 1) = .inl (k.2.1.1, 11, .inl (upd (upd (upd (upd (upd (fun _ => nI 0) 0 (nI u)) 1 (nI (sumL ln u))) 2 (bI fig)) 3 (nI play)) 4 (nI n))) := by rw [hg7, va_up_self]
      refine lv_dup hx hb dX4_isSame_219 rfl ?_
      refine lv_iconst (v := nI 5) hx hb dX4_isSame_220 (by decide) ?_
      refine lv_aload_n hx hb dX4_isSame_221 rfl (lv_at hl 0 rfl) ?_
      refine m_stk (show ([.ref aS, .int (nI 5), .ref (ad2 (N + 1)), .ref (ad2 (N + 1))] : List Value) = [.ref (ad2 50), .int (nI 5), .ref (ad2 (N + 1)), .ref (ad2 (N + 1))] from by rw [haS]) ?_
      refine m_get (ci := 4) (C := RX4) (T := TX4) (N' := 14) hx hb hts (by decide +kernel) hown hE hI 50 (by omega) (show g7 50 = .inr (4, [.ref (ad2 51), .ref (ad2 52), .ref (ad2 53), .int (bI fig), .int (bI uns), .int (nI play), .ref (ad2 54), .ref (ad2 55), .ref (ad2 56), .int (nI rd), .int (nI came), .int mis, .int lost, .int bel]) from hS.2.1) rfl 9 (by decide) (hts (.fieldLink RX4 88 "TapePrinterLaw$Sim" "reader" "I") (by decide +kernel)) rfl dX4_isSame_222 ?_
      refine m_iast hx hb hE hI (N + 1) (by omega) (j := 5) hnw2 (by omega) (by omega) dX4_isSame_225 (fun H locs hI => ?_)
      obtain ⟨g8, hg8⟩ : ∃ zz, zz = va_up g7 (N + 1) (.inl (k.2.1.1, 11, .inl (upd (upd (upd (upd (upd (upd (fun _ => nI 0) 0 (nI u)) 1 (nI (sumL ln u))) 2 (bI fig)) 3 (nI play)) 4 (nI n)) 5 (nI rd)))) := ⟨_, rfl⟩
      replace hI : mI k ad2 (N + 2) g8 (mA ad N s.heap.size) s H locs := by rw [hg8]; exact hI
      have hS : SR k ad2 bs (N + 2) g8 uns play rd n lat gar T (came, mis, lost, bel, fig, u, ln, pg) := by rw [hg8]; exact SR.off hS (by omega)
      have hC : CR k ad2 g8 uns play rd n lat gar T (came, mis, lost, bel, fig, fi, u, z, F) r := by rw [hg8]; exact CR.kept hC (fun i hi => va_up_ne _ _ (by omega))
      have hnw1 : g8 N = .inl (k.2.1.2.2.1, (n + 1), .inl (fun j => bI (fa uns T j))) := by rw [hg8, va_up_ne _ _ (by omega)]; exact hnw1
      have hnw2 : g8 (N + 1) = .inl (k.2.1.1, 11, .inl (upd (upd (upd (upd (upd (upd (fun _ => nI 0) 0 (nI u)) 1 (nI (sumL ln u))) 2 (bI fig)) 3 (nI play)) 4 (nI n)) 5 (nI rd))) := by rw [hg8, va_up_self]
      refine lv_dup hx hb dX4_isSame_226 rfl ?_
      refine lv_bipush (v := nI 6) hx hb dX4_isSame_227 (by decide) ?_
      refine lv_aload_n hx hb dX4_isSame_229 rfl (lv_at hl 0 rfl) ?_
      refine m_stk (show ([.ref aS, .int (nI 6), .ref (ad2 (N + 1)), .ref (ad2 (N + 1))] : List Value) = [.ref (ad2 50), .int (nI 6), .ref (ad2 (N + 1)), .ref (ad2 (N + 1))] from by rw [haS]) ?_
      refine m_get (ci := 4) (C := RX4) (T := TX4) (N' := 14) hx hb hts (by decide +kernel) hown hE hI 50 (by omega) (show g8 50 = .inr (4, [.ref (ad2 51), .ref (ad2 52), .ref (ad2 53), .int (bI fig), .int (bI uns), .int (nI play), .ref (ad2 54), .ref (ad2 55), .ref (ad2 56), .int (nI rd), .int (nI came), .int mis, .int lost, .int bel]) from hS.2.1) rfl 10 (by decide) (hts (.fieldLink RX4 44 "TapePrinterLaw$Sim" "came" "I") (by decide +kernel)) rfl dX4_isSame_230 ?_
      refine m_iast hx hb hE hI (N + 1) (by omega) (j := 6) hnw2 (by omega) (by omega) dX4_isSame_233 (fun H locs hI => ?_)
      obtain ⟨g9, hg9⟩ : ∃ zz, zz = va_up g8 (N + 1) (.inl (k.2.1.1, 11, .inl (upd (upd (upd (upd (upd (upd (upd (fun _ => nI 0) 0 (nI u)) 1 (nI (sumL ln u))) 2 (bI fig)) 3 (nI play)) 4 (nI n)) 5 (nI rd)) 6 (nI came)))) := ⟨_, rfl⟩
      replace hI : mI k ad2 (N + 2) g9 (mA ad N s.heap.size) s H locs := by rw [hg9]; exact hI
      have hS : SR k ad2 bs (N + 2) g9 uns play rd n lat gar T (came, mis, lost, bel, fig, u, ln, pg) := by rw [hg9]; exact SR.off hS (by omega)
      have hC : CR k ad2 g9 uns play rd n lat gar T (came, mis, lost, bel, fig, fi, u, z, F) r := by rw [hg9]; exact CR.kept hC (fun i hi => va_up_ne _ _ (by omega))
      have hnw1 : g9 N = .inl (k.2.1.2.2.1, (n + 1), .inl (fun j => bI (fa uns T j))) := by rw [hg9, va_up_ne _ _ (by omega)]; exact hnw1
      have hnw2 : g9 (N + 1) = .inl (k.2.1.1, 11, .inl (upd (upd (upd (upd (upd (upd (upd (fun _ => nI 0) 0 (nI u)) 1 (nI (sumL ln u))) 2 (bI fig)) 3 (nI play)) 4 (nI n)) 5 (nI rd)) 6 (nI came))) := by rw [hg9, va_up_self]
      refine lv_dup hx hb dX4_isSame_234 rfl ?_
      refine lv_bipush (v := nI 7) hx hb dX4_isSame_235 (by decide) ?_
      refine lv_aload_n hx hb dX4_isSame_237 rfl (lv_at hl 0 rfl) ?_
      refine m_stk (show ([.ref aS, .int (nI 7), .ref (ad2 (N + 1)), .ref (ad2 (N + 1))] : List Value) = [.ref (ad2 50), .int (nI 7), .ref (ad2 (N + 1)), .ref (ad2 (N + 1))] from by rw [haS]) ?_
      refine m_get (ci := 4) (C := RX4) (T := TX4) (N' := 14) hx hb hts (by decide +kernel) hown hE hI 50 (by omega) (show g9 50 = .inr (4, [.ref (ad2 51), .ref (ad2 52), .ref (ad2 53), .int (bI fig), .int (bI uns), .int (nI play), .ref (ad2 54), .ref (ad2 55), .ref (ad2 56), .int (nI rd), .int (nI came), .int mis, .int lost, .int bel]) from hS.2.1) rfl 11 (by decide) (hts (.fieldLink RX4 51 "TapePrinterLaw$Sim" "wrong" "I") (by decide +kernel)) rfl dX4_isSame_238 ?_
      refine m_iast hx hb hE hI (N + 1) (by omega) (j := 7) hnw2 (by omega) (by omega) dX4_isSame_241 (fun H locs hI => ?_)
      obtain ⟨g10, hg10⟩ : ∃ zz, zz = va_up g9 (N + 1) (.inl (k.2.1.1, 11, .inl (upd (upd (upd (upd (upd (upd (upd (upd (fun _ => nI 0) 0 (nI u)) 1 (nI (sumL ln u))) 2 (bI fig)) 3 (nI play)) 4 (nI n)) 5 (nI rd)) 6 (nI came)) 7 mis))) := ⟨_, rfl⟩
      replace hI : mI k ad2 (N + 2) g10 (mA ad N s.heap.size) s H locs := by rw [hg10]; exact hI
      have hS : SR k ad2 bs (N + 2) g10 uns play rd n lat gar T (came, mis, lost, bel, fig, u, ln, pg) := by rw [hg10]; exact SR.off hS (by omega)
      have hC : CR k ad2 g10 uns play rd n lat gar T (came, mis, lost, bel, fig, fi, u, z, F) r := by rw [hg10]; exact CR.kept hC (fun i hi => va_up_ne _ _ (by omega))
      have hnw1 : g10 N = .inl (k.2.1.2.2.1, (n + 1), .inl (fun j => bI (fa uns T j))) := by rw [hg10, va_up_ne _ _ (by omega)]; exact hnw1
      have hnw2 : g10 (N + 1) = .inl (k.2.1.1, 11, .inl (upd (upd (upd (upd (upd (upd (upd (upd (fun _ => nI 0) 0 (nI u)) 1 (nI (sumL ln u))) 2 (bI fig)) 3 (nI play)) 4 (nI n)) 5 (nI rd)) 6 (nI came)) 7 mis)) := by rw [hg10, va_up_self]
      refine lv_dup hx hb dX4_isSame_242 rfl ?_
      refine lv_bipush (v := nI 8) hx hb dX4_isSame_243 (by decide) ?_
      refine lv_aload_n hx hb dX4_isSame_245 rfl (lv_at hl 0 rfl) ?_
      refine m_stk (show ([.ref aS, .int (nI 8), .ref (ad2 (N + 1)), .ref (ad2 (N + 1))] : List Value) = [.ref (ad2 50), .int (nI 8), .ref (ad2 (N + 1)), .ref (ad2 (N + 1))] from by rw [haS]) ?_
      refine m_get (ci := 4) (C := RX4) (T := TX4) (N' := 14) hx hb hts (by decide +kernel) hown hE hI 50 (by omega) (show g10 50 = .inr (4, [.ref (ad2 51), .ref (ad2 52), .ref (ad2 53), .int (bI fig), .int (bI uns), .int (nI play), .ref (ad2 54), .ref (ad2 55), .ref (ad2 56), .int (nI rd), .int (nI came), .int mis, .int lost, .int bel]) from hS.2.1) rfl 12 (by decide) (hts (.fieldLink RX4 60 "TapePrinterLaw$Sim" "lost" "I") (by decide +kernel)) rfl dX4_isSame_246 ?_
      refine m_iast hx hb hE hI (N + 1) (by omega) (j := 8) hnw2 (by omega) (by omega) dX4_isSame_249 (fun H locs hI => ?_)
      obtain ⟨g11, hg11⟩ : ∃ zz, zz = va_up g10 (N + 1) (.inl (k.2.1.1, 11, .inl (upd (upd (upd (upd (upd (upd (upd (upd (upd (fun _ => nI 0) 0 (nI u)) 1 (nI (sumL ln u))) 2 (bI fig)) 3 (nI play)) 4 (nI n)) 5 (nI rd)) 6 (nI came)) 7 mis) 8 lost))) := ⟨_, rfl⟩
      replace hI : mI k ad2 (N + 2) g11 (mA ad N s.heap.size) s H locs := by rw [hg11]; exact hI
      have hS : SR k ad2 bs (N + 2) g11 uns play rd n lat gar T (came, mis, lost, bel, fig, u, ln, pg) := by rw [hg11]; exact SR.off hS (by omega)
      have hC : CR k ad2 g11 uns play rd n lat gar T (came, mis, lost, bel, fig, fi, u, z, F) r := by rw [hg11]; exact CR.kept hC (fun i hi => va_up_ne _ _ (by omega))
      have hnw1 : g11 N = .inl (k.2.1.2.2.1, (n + 1), .inl (fun j => bI (fa uns T j))) := by rw [hg11, va_up_ne _ _ (by omega)]; exact hnw1
      have hnw2 : g11 (N + 1) = .inl (k.2.1.1, 11, .inl (upd (upd (upd (upd (upd (upd (upd (upd (upd (fun _ => nI 0) 0 (nI u)) 1 (nI (sumL ln u))) 2 (bI fig)) 3 (nI play)) 4 (nI n)) 5 (nI rd)) 6 (nI came)) 7 mis) 8 lost)) := by rw [hg11, va_up_self]
      refine lv_dup hx hb dX4_isSame_250 rfl ?_
      refine lv_bipush (v := nI 9) hx hb dX4_isSame_251 (by decide) ?_
      refine lv_aload_n hx hb dX4_isSame_253 rfl (lv_at hl 0 rfl) ?_
      refine m_stk (show ([.ref aS, .int (nI 9), .ref (ad2 (N + 1)), .ref (ad2 (N + 1))] : List Value) = [.ref (ad2 50), .int (nI 9), .ref (ad2 (N + 1)), .ref (ad2 (N + 1))] from by rw [haS]) ?_
      refine m_get (ci := 4) (C := RX4) (T := TX4) (N' := 14) hx hb hts (by decide +kernel) hown hE hI 50 (by omega) (show g11 50 = .inr (4, [.ref (ad2 51), .ref (ad2 52), .ref (ad2 53), .int (bI fig), .int (bI uns), .int (nI play), .ref (ad2 54), .ref (ad2 55), .ref (ad2 56), .int (nI rd), .int (nI came), .int mis, .int lost, .int bel]) from hS.2.1) rfl 4 (by decide) (hts (.fieldLink RX4 40 "TapePrinterLaw$Sim" "unshifts" "Z") (by decide +kernel)) rfl dX4_isSame_254 ?_
      refine m_via hI 265 ([.int (bI uns), .int (nI 9), .ref (ad2 (N + 1)), .ref (ad2 (N + 1))]) (fun K => ?_) (fun H locs hI => ?_)
      · refine m_zeqB (tgt := 264) hx hb dX4_isSame_257 (by decide) (fun c_257 => ?_) (fun c_257 => ?_)
        · refine lv_iconst (v := nI 0) hx hb dX4_isSame_264 (by decide) ?_
          refine m_top (show nI 0 = bI uns from by rw [c_257] <;> rfl) ?_
          exact K H locs hI
        · refine lv_iconst (v := nI 1) hx hb dX4_isSame_260 (by decide) ?_
          refine lv_goto (tgt := 265) hx hb dX4_isSame_261 (by decide) ?_
          refine m_top (show nI 1 = bI uns from by rw [c_257] <;> rfl) ?_
          exact K H locs hI
      refine m_iast hx hb hE hI (N + 1) (by omega) (j := 9) hnw2 (by omega) (by omega) dX4_isSame_265 (fun H locs hI => ?_)
      obtain ⟨g12, hg12⟩ : ∃ zz, zz = va_up g11 (N + 1) (.inl (k.2.1.1, 11, .inl (upd (upd (upd (upd (upd (upd (upd (upd (upd (upd (fun _ => nI 0) 0 (nI u)) 1 (nI (sumL ln u))) 2 (bI fig)) 3 (nI play)) 4 (nI n)) 5 (nI rd)) 6 (nI came)) 7 mis) 8 lost) 9 (bI uns)))) := ⟨_, rfl⟩
      replace hI : mI k ad2 (N + 2) g12 (mA ad N s.heap.size) s H locs := by rw [hg12]; exact hI
      have hS : SR k ad2 bs (N + 2) g12 uns play rd n lat gar T (came, mis, lost, bel, fig, u, ln, pg) := by rw [hg12]; exact SR.off hS (by omega)
      have hC : CR k ad2 g12 uns play rd n lat gar T (came, mis, lost, bel, fig, fi, u, z, F) r := by rw [hg12]; exact CR.kept hC (fun i hi => va_up_ne _ _ (by omega))
      have hnw1 : g12 N = .inl (k.2.1.2.2.1, (n + 1), .inl (fun j => bI (fa uns T j))) := by rw [hg12, va_up_ne _ _ (by omega)]; exact hnw1
      have hnw2 : g12 (N + 1) = .inl (k.2.1.1, 11, .inl (upd (upd (upd (upd (upd (upd (upd (upd (upd (upd (fun _ => nI 0) 0 (nI u)) 1 (nI (sumL ln u))) 2 (bI fig)) 3 (nI play)) 4 (nI n)) 5 (nI rd)) 6 (nI came)) 7 mis) 8 lost) 9 (bI uns))) := by rw [hg12, va_up_self]
      refine lv_dup hx hb dX4_isSame_266 rfl ?_
      refine lv_bipush (v := nI 10) hx hb dX4_isSame_267 (by decide) ?_
      refine lv_aload_n hx hb dX4_isSame_269 rfl (lv_at hl 0 rfl) ?_
      refine m_stk (show ([.ref aS, .int (nI 10), .ref (ad2 (N + 1)), .ref (ad2 (N + 1))] : List Value) = [.ref (ad2 50), .int (nI 10), .ref (ad2 (N + 1)), .ref (ad2 (N + 1))] from by rw [haS]) ?_
      refine m_get (ci := 4) (C := RX4) (T := TX4) (N' := 14) hx hb hts (by decide +kernel) hown hE hI 50 (by omega) (show g12 50 = .inr (4, [.ref (ad2 51), .ref (ad2 52), .ref (ad2 53), .int (bI fig), .int (bI uns), .int (nI play), .ref (ad2 54), .ref (ad2 55), .ref (ad2 56), .int (nI rd), .int (nI came), .int mis, .int lost, .int bel]) from hS.2.1) rfl 13 (by decide) (hts (.fieldLink RX4 54 "TapePrinterLaw$Sim" "rang" "I") (by decide +kernel)) rfl dX4_isSame_270 ?_
      refine m_iast hx hb hE hI (N + 1) (by omega) (j := 10) hnw2 (by omega) (by omega) dX4_isSame_273 (fun H locs hI => ?_)
      obtain ⟨g13, hg13⟩ : ∃ zz, zz = va_up g12 (N + 1) (.inl (k.2.1.1, 11, .inl (upd (upd (upd (upd (upd (upd (upd (upd (upd (upd (upd (fun _ => nI 0) 0 (nI u)) 1 (nI (sumL ln u))) 2 (bI fig)) 3 (nI play)) 4 (nI n)) 5 (nI rd)) 6 (nI came)) 7 mis) 8 lost) 9 (bI uns)) 10 bel))) := ⟨_, rfl⟩
      replace hI : mI k ad2 (N + 2) g13 (mA ad N s.heap.size) s H locs := by rw [hg13]; exact hI
      have hS : SR k ad2 bs (N + 2) g13 uns play rd n lat gar T (came, mis, lost, bel, fig, u, ln, pg) := by rw [hg13]; exact SR.off hS (by omega)
      have hC : CR k ad2 g13 uns play rd n lat gar T (came, mis, lost, bel, fig, fi, u, z, F) r := by rw [hg13]; exact CR.kept hC (fun i hi => va_up_ne _ _ (by omega))
      have hnw1 : g13 N = .inl (k.2.1.2.2.1, (n + 1), .inl (fun j => bI (fa uns T j))) := by rw [hg13, va_up_ne _ _ (by omega)]; exact hnw1
      have hnw2 : g13 (N + 1) = .inl (k.2.1.1, 11, .inl (upd (upd (upd (upd (upd (upd (upd (upd (upd (upd (upd (fun _ => nI 0) 0 (nI u)) 1 (nI (sumL ln u))) 2 (bI fig)) 3 (nI play)) 4 (nI n)) 5 (nI rd)) 6 (nI came)) 7 mis) 8 lost) 9 (bI uns)) 10 bel)) := by rw [hg13, va_up_self]
      refine lv_astore (lv' := [(4, .ref (ad2 (N + 1))), (0, .ref aS), (1, .ref ap), (2, .int (nI (sumL ln u))), (3, .ref (ad2 N))]) hx hb dX4_isSame_274 hl (by decide) rfl (fun ls hl => ?_)
      refine lv_iconst (v := nI 0) hx hb dX4_isSame_276 (by decide) ?_
      refine lv_istore (lv' := [(5, .int (nI 0)), (4, .ref (ad2 (N + 1))), (0, .ref aS), (1, .ref ap), (2, .int (nI (sumL ln u))), (3, .ref (ad2 N))]) hx hb dX4_isSame_277 hl (by decide) rfl (fun ls hl => ?_)
      have hI0 := m_fni hI (N + 1) (by omega) (cntV u (sumz z fi u) fig play n rd came mis lost uns bel) hnw2 (fun j hj => by
        have h9 : j = 0 ∨ j = 1 ∨ j = 2 ∨ j = 3 ∨ j = 4 ∨ j = 5 ∨ j = 6 ∨ j = 7 ∨ j = 8 ∨ j = 9 ∨ j = 10 := by omega
        rw [hsum]
        rcases h9 with rfl | rfl | rfl | rfl | rfl | rfl | rfl | rfl | rfl | rfl | rfl <;> rfl)
      replace hI := hI0
      obtain ⟨g14, hg14⟩ : ∃ zz, zz = va_up g13 (N + 1) (.inl (k.2.1.1, 11, .inl (cntV u (sumz z fi u) fig play n rd came mis lost uns bel))) := ⟨_, rfl⟩
      replace hI : mI k ad2 (N + 2) g14 (mA ad N s.heap.size) s H locs := by rw [hg14]; exact hI
      have hS : SR k ad2 bs (N + 2) g14 uns play rd n lat gar T (came, mis, lost, bel, fig, u, ln, pg) := by rw [hg14]; exact SR.off hS (by omega)
      have hC : CR k ad2 g14 uns play rd n lat gar T (came, mis, lost, bel, fig, fi, u, z, F) r := by rw [hg14]; exact CR.kept hC (fun i hi => va_up_ne _ _ (by omega))
      have hnw1 : g14 N = .inl (k.2.1.2.2.1, (n + 1), .inl (fun j => bI (fa uns T j))) := by rw [hg14, va_up_ne _ _ (by omega)]; exact hnw1
      have hnw2 : g14 (N + 1) = .inl (k.2.1.1, 11, .inl (cntV u (sumz z fi u) fig play n rd came mis lost uns bel)) := by rw [hg14, va_up_self]
      refine W.widen (k := 1062) (n := 6492) (by omega) (by omega) ?_
      refine m_loopC (σ := Nat) (fun k9 => k9 ≤ 11) (fun k9 => 11 - k9) (fun k9 => 1062 + k9) (fun k9 => 6492 + 6 * k9) (fun k9 => g14) (fun k9 => [(0, .ref aS), (1, .ref ap), (2, .int (nI (sumL ln u))), (4, .ref (ad2 (N + 1))), (5, .int (nI k9))]) (nL := 6) 0 (Nat.zero_le _) hI (lv_sub hl [2, 3, 4, 1, 0] rfl) ?_
      rintro k9 hk9 ih279 H locs ls hI hl
      have hI : mI k ad2 (N + 2) g14 (mA ad N s.heap.size) s H locs := hI
      have hl : lv_has ls 6 [(0, .ref aS), (1, .ref ap), (2, .int (nI (sumL ln u))), (4, .ref (ad2 (N + 1))), (5, .int (nI k9))] := hl
      show W p l e _ s m _ below meth c _ _ (1062 + k9) (6492 + 6 * k9) _ _
      refine lv_iload hx hb dX4_isSame_279 (lv_at hl 4 rfl) ?_
      refine lv_bipush (v := nI 11) hx hb dX4_isSame_281 (by decide) ?_
      refine m_cgeN (tgt := 308) hx hb (by omega) (by omega) dX4_isSame_283 (by decide) (fun c_283 => ?_) (fun c_283 => ?_)
      · refine lv_aload_n hx hb dX4_isSame_308 rfl (lv_at hl 1 rfl) ?_
        refine m_stk (show ([.ref ap] : List Value) = [.ref (ad2 0)] from by rw [hap]) ?_
        refine W.base ?_
        have hts := hts9 s.drawn
        have hE := hE.drawn s.drawn
        have hI : mI k ad2 (N + 2) g14 (mA ad N s.heap.size) (s.setDrawn s.drawn) H locs := hI
        refine m_callVd (As := []) (rest := []) hd0 ⟨hx, hb, hml, hown, hts⟩ hE hI (c_X3_mean k l ad2 (N + 2) g14 _ uns play rd n lat gar T came mis lost bel fig fi u z F r (by omega) hW hwf (by omega) hC) (cwV 0 hts gX4_isSame_X3_mean rfl rfl rfl (by decide +kernel) ⟨Nat.le_of_ble_eq_true rfl, Nat.le_of_ble_eq_true rfl⟩) (i := 0) (by omega) hC.1 rfl rfl hl.1 rfl (Nat.le_of_ble_eq_true rfl) dX4_isSame_309 ⟨(by show _ ≤ 1073; omega), (by show _ ≤ 6558; omega)⟩ (fun r9 g9 H locs hp hI d1 hd1 => ?_)
        obtain ⟨hal1, hg9⟩ := hp
        rw [hg9] at hI
        rw [hsum] at hal1
        have hts := hts9 d1
        replace hE : mE k ad2 (N + 2) (mA ad N s.heap.size) (s.setDrawn d1) := mE.drawn hE d1
        refine lv_iload_n hx hb dX4_isSame_312 rfl (lv_at hl 2 rfl) ?_
        refine lv_i2d hx hb dX4_isSame_313 ?_
        refine lv_aload_n hx hb dX4_isSame_314 rfl (lv_at hl 0 rfl) ?_
        refine m_stk (show ([.ref aS, .double (FP.i2d (nI (sumL ln u))), .double r9] : List Value) = [.ref (ad2 50), .double (FP.i2d (nI (sumL ln u))), .double r9] from by rw [haS]) ?_
        refine m_get (ci := 4) (C := RX4) (T := TX4) (N' := 14) hx hb hts (by decide +kernel) hown hE hI 50 (by omega) (show g14 50 = .inr (4, [.ref (ad2 51), .ref (ad2 52), .ref (ad2 53), .int (bI fig), .int (bI uns), .int (nI play), .ref (ad2 54), .ref (ad2 55), .ref (ad2 56), .int (nI rd), .int (nI came), .int mis, .int lost, .int bel]) from hS.2.1) rfl 2 (by decide) (hts (.fieldLink RX4 23 "TapePrinterLaw$Sim" "page" "[[I") (by decide +kernel)) rfl dX4_isSame_315 ?_
        refine m_alen2 hx hb hE hI 53 (by omega) (show g14 53 = .inl (k.2.1.2.2.2, u, .inr (.inr (.inr (.inr (pgF ad2 bs u))))) from hS.2.2.2.2.1) dX4_isSame_318 ?_
        refine lv_i2d hx hb dX4_isSame_319 ?_
        refine lv_ddiv_any hd1 lw_bits hx hb dX4_isSame_320 (fun r8 d2 hal2 hd2 => ?_)
        refine lv_dcmp hx hb dX4_isSame_321 ?_
        refine m_top (show Op.cmpValue (FP.dcmp r9 r8) CmpOp.l = 0 from mean_eq (a := sumL ln u) (u := u) (by omega) hu0 hu20 hal1 hal2) ?_
        refine lv_if_ne (tgt := 329) hx hb dX4_isSame_322 (by decide) (fun h => absurd rfl h) (fun _ => ?_)
        refine lv_iconst (v := nI 1) hx hb dX4_isSame_325 (by decide) ?_
        refine lv_goto (tgt := 330) hx hb dX4_isSame_326 (by decide) ?_
        refine W.widen (k := 1073) (n := 6558) (by omega) (by omega) ?_
        refine m_top (y := bI true) (by decide) ?_
        refine W.endD hd2 ?_
        exact W.zret (v := bI true) hx hb hr (bI_nar true) (fun t ht hW => ⟨⟨bI true, (), rfl, rfl, trivial⟩, hI.2.F ht⟩) hI.2.2.2 dX4_isSame_330 hlocks
      · refine lv_aload_n hx hb dX4_isSame_286 rfl (lv_at hl 1 rfl) ?_
        refine lv_iload hx hb dX4_isSame_287 (lv_at hl 4 rfl) ?_
        refine m_stk (show ([.int (nI k9), .ref ap] : List Value) = [.int (nI k9), .ref (ad2 0)] from by rw [hap]) ?_
        refine m_callVn (As := [.int (nI k9)]) (rest := []) (c1 := 1062 + k9 + 1) (s1 := 6492 + 6 * k9 + 6) ⟨hx, hb, hml, hown, hts⟩ hE hI (c_X3_count k l hst ad2 (N + 2) g14 _ uns play rd n lat gar T came mis lost bel fig fi u z F r (nI k9) (by omega) hW hwf (by omega) hC) (fun E h => absurd (inN_nI (n := 11) (show k9 < 11 by omega) (by omega)) (by rw [h.2]; decide)) (cwV 1 hts gX4_isSame_X3_count rfl rfl rfl (by decide +kernel) ⟨Nat.le_of_ble_eq_true rfl, Nat.le_of_ble_eq_true rfl⟩) (i := 0) (by omega) hC.1 rfl rfl hl.1 rfl (Nat.le_of_ble_eq_true rfl) dX4_isSame_289 (by omega) (by omega) ⟨(by show _ ≤ 1073; omega), (by show _ ≤ 6558; omega)⟩ (fun r9 g9 H locs hp hI => ?_)
        obtain ⟨_, hr9, hg9⟩ := hp
        rw [hg9] at hI
        rw [tn_nI (j := k9) (by omega)] at hr9
        subst hr9
        refine lv_aload hx hb dX4_isSame_292 (lv_at hl 3 rfl) ?_
        refine lv_iload hx hb dX4_isSame_294 (lv_at hl 4 rfl) ?_
        refine m_iald hx hb hE hI (N + 1) (by omega) (j := k9) hnw2 (by omega) (by omega) dX4_isSame_296 ?_
        refine lv_icmp_eq (tgt := 302) hx hb dX4_isSame_297 (by decide) (fun c_297 => ?_) (fun c_297 => ?_)
        · refine lv_iinc (v := nI (k9 + 1)) (lv' := [(5, .int (nI (k9 + 1))), (0, .ref aS), (1, .ref ap), (2, .int (nI (sumL ln u))), (4, .ref (ad2 (N + 1)))]) hx hb dX4_isSame_302 hl (k := 4) rfl (nI_add k9 1) (by decide) rfl (fun ls hl => ?_)
          refine lv_goto (tgt := 279) hx hb dX4_isSame_305 (by decide) ?_
          refine W.widen (k := 1062 + (k9 + 1)) (n := 6492 + 6 * (k9 + 1)) (by omega) (by omega) ?_
          exact ih279 (k9 + 1) (show k9 + 1 ≤ 11 by omega) (show 11 - (k9 + 1) < 11 - k9 by omega) _ _ _ hI (lv_sub hl [1, 2, 3, 4, 0] rfl)
        · exact absurd rfl c_297
    · refine lv_aload_n hx hb dX4_isSame_106 rfl (lv_at hl 1 rfl) ?_
      refine lv_iload hx hb dX4_isSame_107 (lv_at hl 4 rfl) ?_
      refine m_stk (show ([.int (nI k9), .ref ap] : List Value) = [.int (nI k9), .ref (ad1 0)] from by rw [hap]) ?_
      refine m_callVn (As := [.int (nI k9)]) (rest := []) (c1 := 821 + 2 * k9 + 1) (s1 := 5041 + 12 * k9 + 6) ⟨hx, hb, hml, hown, hts⟩ hE hI (c_X3_tape k l hst ad1 (N + 1) g1 _ uns play rd n lat gar T came mis lost bel fig fi u z F r (nI k9) (by omega) hW hwf (by omega) hC) (fun E h => absurd (inN_nI (n := n) (show k9 < n by omega) (by omega)) (by rw [h.2]; decide)) (cwV 1 hts gX4_isSame_X3_tape rfl rfl rfl (by decide +kernel) ⟨Nat.le_of_ble_eq_true rfl, Nat.le_of_ble_eq_true rfl⟩) (i := 0) (by omega) hC.1 rfl rfl hl.1 rfl (Nat.le_of_ble_eq_true rfl) dX4_isSame_109 (by omega) (by omega) ⟨(by show _ ≤ 1073; omega), (by show _ ≤ 6558; omega)⟩ (fun r9 g9 H locs hp hI => ?_)
      obtain ⟨_, hr9, hg9⟩ := hp
      rw [hg9] at hI
      rw [tn_nI (j := k9) (by omega)] at hr9
      subst hr9
      refine lv_aload_n hx hb dX4_isSame_112 rfl (lv_at hl 0 rfl) ?_
      refine m_stk (show ([.ref aS, .int (nI (T k9))] : List Value) = [.ref (ad1 50), .int (nI (T k9))] from by rw [haS]) ?_
      refine m_get (ci := 4) (C := RX4) (T := TX4) (N' := 14) hx hb hts (by decide +kernel) hown hE hI 50 (by omega) (show g1 50 = .inr (4, [.ref (ad1 51), .ref (ad1 52), .ref (ad1 53), .int (bI fig), .int (bI uns), .int (nI play), .ref (ad1 54), .ref (ad1 55), .ref (ad1 56), .int (nI rd), .int (nI came), .int mis, .int lost, .int bel]) from hS.2.1) rfl 8 (by decide) (hts (.fieldLink RX4 33 "TapePrinterLaw$Sim" "tape" "[I") (by decide +kernel)) rfl dX4_isSame_113 ?_
      refine lv_iload hx hb dX4_isSame_116 (lv_at hl 4 rfl) ?_
      refine m_iald hx hb hE hI 56 (by omega) (j := k9) (show g1 56 = .inl (k.2.1.1, n, .inl (fun j => nI (T j))) from hS.2.2.2.2.2.2.2.1) (by omega) (by omega) dX4_isSame_118 ?_
      refine m_top (show (fun j => nI (T j)) k9 = nI (T k9) from rfl) ?_
      have ht_1 := hT k9
      refine m_cneN (tgt := 165) hx hb (by omega) (by omega) dX4_isSame_119 (by decide) (fun c_119 => ?_) (fun c_119 => ?_)
      · exact absurd rfl c_119
      · refine lv_aload_n hx hb dX4_isSame_122 rfl (lv_at hl 1 rfl) ?_
        refine lv_iload hx hb dX4_isSame_123 (lv_at hl 4 rfl) ?_
        refine m_stk (show ([.int (nI k9), .ref ap] : List Value) = [.int (nI k9), .ref (ad1 0)] from by rw [hap]) ?_
        refine m_callVn (As := [.int (nI k9)]) (rest := []) (c1 := 821 + 2 * k9 + 2) (s1 := 5041 + 12 * k9 + 12) ⟨hx, hb, hml, hown, hts⟩ hE hI (c_X3_prints k l hst ad1 (N + 1) g1 _ uns play rd n lat gar T came mis lost bel fig fi u z F r (nI k9) (by omega) hW hwf (by omega) hC) (fun E h => absurd (inN_nI (n := n) (show k9 < n by omega) (by omega)) (by rw [h.2]; decide)) (cwV 1 hts gX4_isSame_X3_prints rfl rfl rfl (by decide +kernel) ⟨Nat.le_of_ble_eq_true rfl, Nat.le_of_ble_eq_true rfl⟩) (i := 0) (by omega) hC.1 rfl rfl hl.1 rfl (Nat.le_of_ble_eq_true rfl) dX4_isSame_125 (by omega) (by omega) ⟨(by show _ ≤ 1073; omega), (by show _ ≤ 6558; omega)⟩ (fun r9 g9 H locs hp hI => ?_)
        obtain ⟨_, hr9, hg9⟩ := hp
        rw [hg9] at hI
        rw [tn_nI (j := k9) (by omega)] at hr9
        subst hr9
        refine lv_aload_n hx hb dX4_isSame_128 rfl (lv_at hl 3 rfl) ?_
        refine lv_iload hx hb dX4_isSame_129 (lv_at hl 4 rfl) ?_
        refine m_zald hx hb hE hI N (by omega) (j := k9) hnw1 (by omega) (by omega) dX4_isSame_131 ?_
        refine m_top (show (fun j => bI (fa uns T j)) k9 = bI (fa uns T k9) from rfl) ?_
        refine m_zeqB (tgt := 150) hx hb dX4_isSame_132 (by decide) (fun c_132 => ?_) (fun c_132 => ?_)
        · refine lv_aload_n hx hb dX4_isSame_150 rfl (lv_at hl 0 rfl) ?_
          refine m_stk (show ([.ref aS, .int (nI (chF (T k9) (fa uns T k9)))] : List Value) = [.ref (ad1 50), .int (nI (chF (T k9) (fa uns T k9)))] from by rw [haS]) ?_
          refine m_get (ci := 4) (C := RX4) (T := TX4) (N' := 14) hx hb hts (by decide +kernel) hown hE hI 50 (by omega) (show g1 50 = .inr (4, [.ref (ad1 51), .ref (ad1 52), .ref (ad1 53), .int (bI fig), .int (bI uns), .int (nI play), .ref (ad1 54), .ref (ad1 55), .ref (ad1 56), .int (nI rd), .int (nI came), .int mis, .int lost, .int bel]) from hS.2.1) rfl 0 (by decide) (hts (.fieldLink RX4 13 "TapePrinterLaw$Sim" "letters" "[I") (by decide +kernel)) rfl dX4_isSame_151 ?_
          refine lv_aload_n hx hb dX4_isSame_154 rfl (lv_at hl 0 rfl) ?_
          refine m_stk (show ([.ref aS, .ref (ad1 51), .int (nI (chF (T k9) (fa uns T k9)))] : List Value) = [.ref (ad1 50), .ref (ad1 51), .int (nI (chF (T k9) (fa uns T k9)))] from by rw [haS]) ?_
          refine m_get (ci := 4) (C := RX4) (T := TX4) (N' := 14) hx hb hts (by decide +kernel) hown hE hI 50 (by omega) (show g1 50 = .inr (4, [.ref (ad1 51), .ref (ad1 52), .ref (ad1 53), .int (bI fig), .int (bI uns), .int (nI play), .ref (ad1 54), .ref (ad1 55), .ref (ad1 56), .int (nI rd), .int (nI came), .int mis, .int lost, .int bel]) from hS.2.1) rfl 8 (by decide) (hts (.fieldLink RX4 33 "TapePrinterLaw$Sim" "tape" "[I") (by decide +kernel)) rfl dX4_isSame_155 ?_
          refine lv_iload hx hb dX4_isSame_158 (lv_at hl 4 rfl) ?_
          refine m_iald hx hb hE hI 56 (by omega) (j := k9) (show g1 56 = .inl (k.2.1.1, n, .inl (fun j => nI (T j))) from hS.2.2.2.2.2.2.2.1) (by omega) (by omega) dX4_isSame_160 ?_
          refine m_top (show (fun j => nI (T j)) k9 = nI (T k9) from rfl) ?_
          have ht_2 := hT k9
          refine m_iald hx hb hE hI 51 (by omega) (j := T k9) (show g1 51 = .inl (k.2.1.1, 32, .inl (fun j => nI (chF j false))) from hS.2.2.1) (by omega) (by omega) dX4_isSame_161 ?_
          refine m_top (show (fun j => nI (chF j false)) (T k9) = nI (chF (T k9) false) from rfl) ?_
          refine m_ceqN (tgt := 167) hx hb (by omega) (by omega) dX4_isSame_162 (by decide) (fun c_162 => ?_) (fun c_162 => ?_)
          · refine lv_iinc (v := nI (k9 + 1)) (lv' := [(4, .int (nI (k9 + 1))), (0, .ref aS), (1, .ref ap), (2, .int (nI (sumL ln u))), (3, .ref (ad1 N))]) hx hb dX4_isSame_167 hl (k := 4) rfl (nI_add k9 1) (by decide) rfl (fun ls hl => ?_)
            refine lv_goto (tgt := 96) hx hb dX4_isSame_170 (by decide) ?_
            refine W.widen (k := 821 + 2 * (k9 + 1)) (n := 5041 + 12 * (k9 + 1)) (by omega) (by omega) ?_
            exact ih96 (k9 + 1) (show k9 + 1 ≤ n by omega) (show n - (k9 + 1) < n - k9 by omega) _ _ _ hI (lv_sub hl [1, 2, 3, 4, 0] rfl)
          · exact absurd (by rw [c_132]) c_162
        · refine lv_aload_n hx hb dX4_isSame_135 rfl (lv_at hl 0 rfl) ?_
          refine m_stk (show ([.ref aS, .int (nI (chF (T k9) (fa uns T k9)))] : List Value) = [.ref (ad1 50), .int (nI (chF (T k9) (fa uns T k9)))] from by rw [haS]) ?_
          refine m_get (ci := 4) (C := RX4) (T := TX4) (N' := 14) hx hb hts (by decide +kernel) hown hE hI 50 (by omega) (show g1 50 = .inr (4, [.ref (ad1 51), .ref (ad1 52), .ref (ad1 53), .int (bI fig), .int (bI uns), .int (nI play), .ref (ad1 54), .ref (ad1 55), .ref (ad1 56), .int (nI rd), .int (nI came), .int mis, .int lost, .int bel]) from hS.2.1) rfl 1 (by decide) (hts (.fieldLink RX4 19 "TapePrinterLaw$Sim" "figures" "[I") (by decide +kernel)) rfl dX4_isSame_136 ?_
          refine lv_aload_n hx hb dX4_isSame_139 rfl (lv_at hl 0 rfl) ?_
          refine m_stk (show ([.ref aS, .ref (ad1 52), .int (nI (chF (T k9) (fa uns T k9)))] : List Value) = [.ref (ad1 50), .ref (ad1 52), .int (nI (chF (T k9) (fa uns T k9)))] from by rw [haS]) ?_
          refine m_get (ci := 4) (C := RX4) (T := TX4) (N' := 14) hx hb hts (by decide +kernel) hown hE hI 50 (by omega) (show g1 50 = .inr (4, [.ref (ad1 51), .ref (ad1 52), .ref (ad1 53), .int (bI fig), .int (bI uns), .int (nI play), .ref (ad1 54), .ref (ad1 55), .ref (ad1 56), .int (nI rd), .int (nI came), .int mis, .int lost, .int bel]) from hS.2.1) rfl 8 (by decide) (hts (.fieldLink RX4 33 "TapePrinterLaw$Sim" "tape" "[I") (by decide +kernel)) rfl dX4_isSame_140 ?_
          refine lv_iload hx hb dX4_isSame_143 (lv_at hl 4 rfl) ?_
          refine m_iald hx hb hE hI 56 (by omega) (j := k9) (show g1 56 = .inl (k.2.1.1, n, .inl (fun j => nI (T j))) from hS.2.2.2.2.2.2.2.1) (by omega) (by omega) dX4_isSame_145 ?_
          refine m_top (show (fun j => nI (T j)) k9 = nI (T k9) from rfl) ?_
          have ht_3 := hT k9
          refine m_iald hx hb hE hI 52 (by omega) (j := T k9) (show g1 52 = .inl (k.2.1.1, 32, .inl (fun j => nI (chF j true))) from hS.2.2.2.1) (by omega) (by omega) dX4_isSame_146 ?_
          refine m_top (show (fun j => nI (chF j true)) (T k9) = nI (chF (T k9) true) from rfl) ?_
          refine lv_goto (tgt := 162) hx hb dX4_isSame_147 (by decide) ?_
          refine m_ceqN (tgt := 167) hx hb (by omega) (by omega) dX4_isSame_162 (by decide) (fun c_162 => ?_) (fun c_162 => ?_)
          · refine lv_iinc (v := nI (k9 + 1)) (lv' := [(4, .int (nI (k9 + 1))), (0, .ref aS), (1, .ref ap), (2, .int (nI (sumL ln u))), (3, .ref (ad1 N))]) hx hb dX4_isSame_167 hl (k := 4) rfl (nI_add k9 1) (by decide) rfl (fun ls hl => ?_)
            refine lv_goto (tgt := 96) hx hb dX4_isSame_170 (by decide) ?_
            refine W.widen (k := 821 + 2 * (k9 + 1)) (n := 5041 + 12 * (k9 + 1)) (by omega) (by omega) ?_
            exact ih96 (k9 + 1) (show k9 + 1 ≤ n by omega) (show n - (k9 + 1) < n - k9 by omega) _ _ _ hI (lv_sub hl [1, 2, 3, 4, 0] rfl)
          · exact absurd (by rw [c_132]) c_162
  · refine lv_aload_n hx hb dX4_isSame_13 rfl (lv_at hl 1 rfl) ?_
    refine lv_iload_n hx hb dX4_isSame_14 rfl (lv_at hl 3 rfl) ?_
    refine m_stk (show ([.int (nI l9), .ref ap] : List Value) = [.int (nI l9), .ref (ad 0)] from by rw [hap]) ?_
    refine m_callVn (As := [.int (nI l9)]) (rest := []) (c1 := 41 * l9 + 1) (s1 := 246 * l9 + 6) ⟨hx, hb, hml, hown, hts⟩ hE hI (c_X3_length k l hst ad N g _ uns play rd n lat gar T came mis lost bel fig fi u z F r (nI l9) (by omega) hW hwf (by omega) hC) (fun E h => absurd (inN_nI (n := u) (show l9 < u by omega) (by omega)) (by rw [h.2]; decide)) (cwV 1 hts gX4_isSame_X3_length rfl rfl rfl (by decide +kernel) ⟨Nat.le_of_ble_eq_true rfl, Nat.le_of_ble_eq_true rfl⟩) (i := 0) (by omega) hC.1 rfl rfl hl.1 rfl (Nat.le_of_ble_eq_true rfl) dX4_isSame_15 (by omega) (by omega) ⟨(by show _ ≤ 1073; omega), (by show _ ≤ 6558; omega)⟩ (fun r9 g9 H locs hp hI => ?_)
    obtain ⟨_, hr9, hg9⟩ := hp
    rw [hg9] at hI
    rw [tn_nI (j := l9) (by omega)] at hr9
    subst hr9
    have hz9 : z (slt fi l9) = ln l9 := hpgl l9 (by omega)
    have hln9 := hln l9 (by omega)
    refine m_top (show nI (z (slt fi l9)) = nI (ln l9) from by rw [hz9]) ?_
    refine lv_aload_n hx hb dX4_isSame_18 rfl (lv_at hl 0 rfl) ?_
    refine m_stk (show ([.ref aS, .int (nI (ln l9))] : List Value) = [.ref (ad 50), .int (nI (ln l9))] from by rw [haS]) ?_
    refine m_get (ci := 4) (C := RX4) (T := TX4) (N' := 14) hx hb hts (by decide +kernel) hown hE hI 50 (by omega) (show g 50 = .inr (4, [.ref (ad 51), .ref (ad 52), .ref (ad 53), .int (bI fig), .int (bI uns), .int (nI play), .ref (ad 54), .ref (ad 55), .ref (ad 56), .int (nI rd), .int (nI came), .int mis, .int lost, .int bel]) from hS.2.1) rfl 2 (by decide) (hts (.fieldLink RX4 23 "TapePrinterLaw$Sim" "page" "[[I") (by decide +kernel)) rfl dX4_isSame_19 ?_
    refine lv_iload_n hx hb dX4_isSame_22 rfl (lv_at hl 3 rfl) ?_
    refine m_ald2 hx hb hE hI 53 (by omega) (j := l9) (show g 53 = .inl (k.2.1.2.2.2, u, .inr (.inr (.inr (.inr (pgF ad bs u))))) from hS.2.2.2.2.1) (by omega) (by omega) dX4_isSame_23 ?_
    refine m_rf (pgF_in (by omega)) ?_
    have pr_4 : g (bs + l9) = .inl (k.2.1.1, ln l9, .inl (fun i => nI (pg l9 i))) := hS.2.2.2.2.2.2.2.2 l9 (show l9 < u by omega)
    refine m_aleni hx hb hE hI (bs + l9) (by omega) pr_4 dX4_isSame_24 ?_
    refine m_ceqN (tgt := 30) hx hb (by omega) (by omega) dX4_isSame_25 (by decide) (fun c_25 => ?_) (fun c_25 => ?_)
    · refine lv_iload_n hx hb dX4_isSame_30 rfl (lv_at hl 2 rfl) ?_
      refine lv_aload_n hx hb dX4_isSame_31 rfl (lv_at hl 0 rfl) ?_
      refine m_stk (show ([.ref aS, .int (nI (sumL ln l9))] : List Value) = [.ref (ad 50), .int (nI (sumL ln l9))] from by rw [haS]) ?_
      refine m_get (ci := 4) (C := RX4) (T := TX4) (N' := 14) hx hb hts (by decide +kernel) hown hE hI 50 (by omega) (show g 50 = .inr (4, [.ref (ad 51), .ref (ad 52), .ref (ad 53), .int (bI fig), .int (bI uns), .int (nI play), .ref (ad 54), .ref (ad 55), .ref (ad 56), .int (nI rd), .int (nI came), .int mis, .int lost, .int bel]) from hS.2.1) rfl 2 (by decide) (hts (.fieldLink RX4 23 "TapePrinterLaw$Sim" "page" "[[I") (by decide +kernel)) rfl dX4_isSame_32 ?_
      refine lv_iload_n hx hb dX4_isSame_35 rfl (lv_at hl 3 rfl) ?_
      refine m_ald2 hx hb hE hI 53 (by omega) (j := l9) (show g 53 = .inl (k.2.1.2.2.2, u, .inr (.inr (.inr (.inr (pgF ad bs u))))) from hS.2.2.2.2.1) (by omega) (by omega) dX4_isSame_36 ?_
      refine m_rf (pgF_in (by omega)) ?_
      have pr_5 : g (bs + l9) = .inl (k.2.1.1, ln l9, .inl (fun i => nI (pg l9 i))) := hS.2.2.2.2.2.2.2.2 l9 (show l9 < u by omega)
      refine m_aleni hx hb hE hI (bs + l9) (by omega) pr_5 dX4_isSame_37 ?_
      refine m_iaddN hx hb dX4_isSame_38 ?_
      refine lv_istore_n (lv' := [(2, .int (nI ((sumL ln l9) + (ln l9)))), (0, .ref aS), (1, .ref ap), (3, .int (nI l9))]) hx hb dX4_isSame_39 rfl hl (by decide) rfl (fun ls hl => ?_)
      refine lv_iconst (v := nI 0) hx hb dX4_isSame_40 (by decide) ?_
      refine lv_istore (lv' := [(4, .int (nI 0)), (2, .int (nI ((sumL ln l9) + (ln l9)))), (0, .ref aS), (1, .ref ap), (3, .int (nI l9))]) hx hb dX4_isSame_41 hl (by decide) rfl (fun ls hl => ?_)
      have hl : lv_has ls 6 [(4, .int (nI 0)), (2, .int (nI (sumL ln (l9 + 1)))), (0, .ref aS), (1, .ref ap), (3, .int (nI l9))] := hl
      refine m_loopC (σ := Nat) (fun k9 => k9 ≤ ln l9) (fun k9 => ln l9 - k9) (fun k9 => 41 * l9 + 1 + k9) (fun k9 => 246 * l9 + 6 + 6 * k9) (fun k9 => g) (fun k9 => [(0, .ref aS), (1, .ref ap), (2, .int (nI (sumL ln (l9 + 1)))), (3, .int (nI l9)), (4, .int (nI k9))]) (nL := 6) 0 (Nat.zero_le _) hI (lv_sub hl [2, 3, 1, 4, 0] rfl) ?_
      rintro k9 hk9 ih43 H locs ls hI hl
      have hI : mI k ad N g (mA ad N s.heap.size) s H locs := hI
      have hl : lv_has ls 6 [(0, .ref aS), (1, .ref ap), (2, .int (nI (sumL ln (l9 + 1)))), (3, .int (nI l9)), (4, .int (nI k9))] := hl
      show W p l e _ s m _ below meth c _ _ (41 * l9 + 1 + k9) (246 * l9 + 6 + 6 * k9) _ _
      refine lv_iload hx hb dX4_isSame_43 (lv_at hl 4 rfl) ?_
      refine lv_aload_n hx hb dX4_isSame_45 rfl (lv_at hl 0 rfl) ?_
      refine m_stk (show ([.ref aS, .int (nI k9)] : List Value) = [.ref (ad 50), .int (nI k9)] from by rw [haS]) ?_
      refine m_get (ci := 4) (C := RX4) (T := TX4) (N' := 14) hx hb hts (by decide +kernel) hown hE hI 50 (by omega) (show g 50 = .inr (4, [.ref (ad 51), .ref (ad 52), .ref (ad 53), .int (bI fig), .int (bI uns), .int (nI play), .ref (ad 54), .ref (ad 55), .ref (ad 56), .int (nI rd), .int (nI came), .int mis, .int lost, .int bel]) from hS.2.1) rfl 2 (by decide) (hts (.fieldLink RX4 23 "TapePrinterLaw$Sim" "page" "[[I") (by decide +kernel)) rfl dX4_isSame_46 ?_
      refine lv_iload_n hx hb dX4_isSame_49 rfl (lv_at hl 3 rfl) ?_
      refine m_ald2 hx hb hE hI 53 (by omega) (j := l9) (show g 53 = .inl (k.2.1.2.2.2, u, .inr (.inr (.inr (.inr (pgF ad bs u))))) from hS.2.2.2.2.1) (by omega) (by omega) dX4_isSame_50 ?_
      refine m_rf (pgF_in (by omega)) ?_
      have pr_6 : g (bs + l9) = .inl (k.2.1.1, ln l9, .inl (fun i => nI (pg l9 i))) := hS.2.2.2.2.2.2.2.2 l9 (show l9 < u by omega)
      refine m_aleni hx hb hE hI (bs + l9) (by omega) pr_6 dX4_isSame_51 ?_
      refine m_cgeN (tgt := 82) hx hb (by omega) (by omega) dX4_isSame_52 (by decide) (fun c_52 => ?_) (fun c_52 => ?_)
      · refine lv_iinc (v := nI (l9 + 1)) (lv' := [(3, .int (nI (l9 + 1))), (0, .ref aS), (1, .ref ap), (2, .int (nI (sumL ln (l9 + 1)))), (4, .int (nI k9))]) hx hb dX4_isSame_82 hl (k := 3) rfl (nI_add l9 1) (by decide) rfl (fun ls hl => ?_)
        refine lv_goto (tgt := 4) hx hb dX4_isSame_85 (by decide) ?_
        refine W.widen (k := 41 * (l9 + 1)) (n := 246 * (l9 + 1)) (by omega) (by omega) ?_
        exact ih4 (l9 + 1) (show l9 + 1 ≤ u by omega) (show u - (l9 + 1) < u - l9 by omega) _ _ _ hI (lv_sub hl [1, 2, 3, 0] rfl)
      · have hpg9 : F (slt fi l9) k9 = pg l9 k9 := hpgc l9 (by omega) k9 (by omega)
        refine lv_aload_n hx hb dX4_isSame_55 rfl (lv_at hl 1 rfl) ?_
        refine lv_iload_n hx hb dX4_isSame_56 rfl (lv_at hl 3 rfl) ?_
        refine lv_iload hx hb dX4_isSame_57 (lv_at hl 4 rfl) ?_
        refine m_stk (show ([.int (nI k9), .int (nI l9), .ref ap] : List Value) = [.int (nI k9), .int (nI l9), .ref (ad 0)] from by rw [hap]) ?_
        refine m_callVn (As := [.int (nI l9), .int (nI k9)]) (rest := []) (c1 := 41 * l9 + 1 + k9 + 1) (s1 := 246 * l9 + 6 + 6 * k9 + 6) ⟨hx, hb, hml, hown, hts⟩ hE hI (c_X3_page k l hst ad N g _ uns play rd n lat gar T came mis lost bel fig fi u z F r (nI l9) (nI k9) (by omega) hW hwf (by omega) hC) (fun E h => absurd (show (inN (nI l9) u && inN (nI k9) (z (slt fi (tn (nI l9))))) = true by rw [tn_nI (j := l9) (by omega), inN_nI (show l9 < u by omega) (by omega), inN_nI (by omega) (by omega)]; rfl) (by rw [h.2]; decide)) (cwV 2 hts gX4_isSame_X3_page rfl rfl rfl (by decide +kernel) ⟨Nat.le_of_ble_eq_true rfl, Nat.le_of_ble_eq_true rfl⟩) (i := 0) (by omega) hC.1 rfl rfl hl.1 rfl (Nat.le_of_ble_eq_true rfl) dX4_isSame_59 (by omega) (by omega) ⟨(by show _ ≤ 1073; omega), (by show _ ≤ 6558; omega)⟩ (fun r9 g9 H locs hp hI => ?_)
        obtain ⟨_, hr9, hg9⟩ := hp
        rw [hg9] at hI
        rw [tn_nI (j := l9) (by omega), tn_nI (j := k9) (by omega)] at hr9
        subst hr9
        refine m_top (show nI (F (slt fi l9) k9) = nI (pg l9 k9) from by rw [hpg9]) ?_
        refine lv_aload_n hx hb dX4_isSame_62 rfl (lv_at hl 0 rfl) ?_
        refine m_stk (show ([.ref aS, .int (nI (pg l9 k9))] : List Value) = [.ref (ad 50), .int (nI (pg l9 k9))] from by rw [haS]) ?_
        refine m_get (ci := 4) (C := RX4) (T := TX4) (N' := 14) hx hb hts (by decide +kernel) hown hE hI 50 (by omega) (show g 50 = .inr (4, [.ref (ad 51), .ref (ad 52), .ref (ad 53), .int (bI fig), .int (bI uns), .int (nI play), .ref (ad 54), .ref (ad 55), .ref (ad 56), .int (nI rd), .int (nI came), .int mis, .int lost, .int bel]) from hS.2.1) rfl 2 (by decide) (hts (.fieldLink RX4 23 "TapePrinterLaw$Sim" "page" "[[I") (by decide +kernel)) rfl dX4_isSame_63 ?_
        refine lv_iload_n hx hb dX4_isSame_66 rfl (lv_at hl 3 rfl) ?_
        refine m_ald2 hx hb hE hI 53 (by omega) (j := l9) (show g 53 = .inl (k.2.1.2.2.2, u, .inr (.inr (.inr (.inr (pgF ad bs u))))) from hS.2.2.2.2.1) (by omega) (by omega) dX4_isSame_67 ?_
        refine m_rf (pgF_in (by omega)) ?_
        have pr_7 : g (bs + l9) = .inl (k.2.1.1, ln l9, .inl (fun i => nI (pg l9 i))) := hS.2.2.2.2.2.2.2.2 l9 (show l9 < u by omega)
        refine lv_iload hx hb dX4_isSame_68 (lv_at hl 4 rfl) ?_
        refine m_iald hx hb hE hI (bs + l9) (by omega) (j := k9) pr_7 (by omega) (by omega) dX4_isSame_70 ?_
        refine m_top (show (fun i => nI (pg l9 i)) k9 = nI (pg l9 k9) from rfl) ?_
        refine lv_icmp_eq (tgt := 76) hx hb dX4_isSame_71 (by decide) (fun c_71 => ?_) (fun c_71 => ?_)
        · refine lv_iinc (v := nI (k9 + 1)) (lv' := [(4, .int (nI (k9 + 1))), (0, .ref aS), (1, .ref ap), (2, .int (nI (sumL ln (l9 + 1)))), (3, .int (nI l9))]) hx hb dX4_isSame_76 hl (k := 4) rfl (nI_add k9 1) (by decide) rfl (fun ls hl => ?_)
          refine lv_goto (tgt := 43) hx hb dX4_isSame_79 (by decide) ?_
          refine W.widen (k := 41 * l9 + 1 + (k9 + 1)) (n := 246 * l9 + 6 + 6 * (k9 + 1)) (by omega) (by omega) ?_
          exact ih43 (k9 + 1) (show k9 + 1 ≤ ln l9 by omega) (show ln l9 - (k9 + 1) < ln l9 - k9 by omega) _ _ _ hI (lv_sub hl [1, 2, 3, 4, 0] rfl)
        · exact absurd rfl c_71
    · exact absurd rfl c_25
