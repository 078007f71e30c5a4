/-! One turn of the law. -/
set_option maxHeartbeats 16000000 in
set_option maxRecDepth 100000 in
theorem law_turn {p : Program} {e : Env} {s : State} {m : MethodId} {below : List Frame} {meth : Method} {c : Code} (l : Launch) {Q : State → Prop} (k : mC) {A : Nat → Prop} {b L : Nat} {xs : Nat → Int32} (hst : l.stackTraces = false) (hx : p.tables.exec = Jvm.exec) (hb : c.code = cL_law) (hml : c.maxLocals = 24) (hown : s.vm.findClass RL = some m.cls) (hts : ∀ w ∈ wsL_law, w.before #[Value.ref b] s = true) (hX : va_X b L xs s s.heap) (hbl : b < s.heap.size) (hAb : ¬ A b) (hL : L ≤ 260)
    (ad : Nat → Nat) (N : Nat) (g : Nat → va_E) (H : Heap) (locs : List Loc) (ls : Array Slot) (ap aS t cm c0 s0 : Nat) (ht : t < 44) (hcm : cm ≤ 50000) (hc0 : c0 + 1200 ≤ 600130) (hs0 : s0 + 20000 ≤ 7301080) (hE : mE k ad N A s) (hI : mI k ad N g A s H locs) (hST : ST k ad 57 N g cm) (hap : ad 0 = ap) (haS : ad 50 = aS) (hl : lv_has ls 24 [(0, .ref b), (1, .ref ap), (2, .ref aS), (3, .int (nI t))])
    (K : ∀ (ad1 : Nat → Nat) (N1 : Nat) (g1 : Nat → va_E) (H : Heap) (locs : List Loc) (ls : Array Slot), mE k ad1 N1 A s → mI k ad1 N1 g1 A s H locs → ST k ad1 57 N1 g1 (cm + 300) → ad1 0 = ap → ad1 50 = aS → lv_has ls 24 [(0, .ref b), (1, .ref ap), (2, .ref aS), (3, .int (nI (t + 1)))] → W p l e room_1 s m #[Value.ref b] below meth c H locs (c0 + 1200) (s0 + 20000) Q (F0 m 22 ls [])) :
    W p l e room_1 s m #[Value.ref b] below meth c H locs c0 s0 Q (F0 m 28 ls []) := by
  have hN50 : 50 < N := by obtain ⟨_, _, _, _, _, _, _, _, _, _, _, hSR, _⟩ := hST; have h1 := hSR.1; omega
  refine lv_aload_n hx hb dL_law_28 rfl (lv_at hl 0 rfl) ?_
  refine lv_iload_n hx hb dL_law_29 rfl (lv_at hl 3 rfl) ?_
  refine lv_bipush (v := nI 16) hx hb dL_law_30 (by decide) ?_
  refine m_iremN hx hb (by omega) (by omega) (by omega) dL_law_32 ?_
  refine m_callSxi (As := [.ref b, .int (nI (t % 16))]) (rest := []) hX hbl hAb ⟨hx, hb, hml, hown, hts⟩ hE hI (c_L_cell k l ad N g _ b L xs (t % 16) (by omega) (by omega)) (va_cwS 2 hts gL_law_L_cell rfl rfl rfl (by decide +kernel) ⟨Nat.le_of_ble_eq_true rfl, Nat.le_of_ble_eq_true rfl⟩) rfl hl.1 rfl (Nat.le_of_ble_eq_true rfl) dL_law_33 ⟨(by show _ ≤ 600130; omega), (by show _ ≤ 7301080; omega)⟩ (m_deti (fun H locs hI => ?_))
  refine lv_iload_n hx hb dL_law_36 rfl (lv_at hl 3 rfl) ?_
  refine lv_bipush (v := nI 16) hx hb dL_law_37 (by decide) ?_
  refine lv_idiv hx hb dL_law_39 (nI_ne0 (by omega) (by omega)) ?_
  refine m_top (show nI t / nI 16 = nI (t / 16) from pk_div (by omega) (by omega) (by omega)) ?_
  refine lv_iconst (v := nI 3) hx hb dL_law_40 (by decide) ?_
  refine m_imulN hx hb dL_law_41 ?_
  refine lv_ishr hx hb dL_law_42 ?_
  refine lv_sipush (v := nI 277) hx hb dL_law_43 (by decide) ?_
  refine lv_iload_n hx hb dL_law_46 rfl (lv_at hl 3 rfl) ?_
  refine m_imulN hx hb dL_law_47 ?_
  refine lv_iadd hx hb dL_law_48 ?_
  obtain ⟨x9, hx9⟩ : ∃ zz, zz = ((cel xs L (t % 16)) >>> ((nI ((t / 16) * 3)) &&& 31)) + (nI (277 * t)) := ⟨_, rfl⟩
  refine m_top (show ((cel xs L (t % 16)) >>> ((nI ((t / 16) * 3)) &&& 31)) + (nI (277 * t)) = x9 from by rw [hx9]) ?_
  refine lv_istore (lv' := [(4, .int x9), (0, .ref b), (1, .ref ap), (2, .ref aS), (3, .int (nI t))]) hx hb dL_law_49 hl (by decide) rfl (fun ls hl => ?_)
  refine lv_aload_n hx hb dL_law_51 rfl (lv_at hl 2 rfl) ?_
  refine lv_aload_n hx hb dL_law_52 rfl (lv_at hl 3 rfl) ?_
  refine lv_iload hx hb dL_law_53 (lv_at hl 0 rfl) ?_
  refine m_stk (show ([.int x9, .ref aS, .ref ap] : List Value) = [.int x9, .ref (ad 50), .ref (ad 0)] from by rw [haS, hap]) ?_
  refine m_callSgi (As := [.ref (ad 0), .ref (ad 50), .int x9]) (rest := []) (c1 := c0 + 481) (s1 := s0 + 8406) ⟨hx, hb, hml, hown, hts⟩ hE hI (c_L_act k l ad N g _ 57 (cm) x9 hst (by omega) hST) (va_cwS 3 hts gL_law_L_act rfl rfl rfl (by decide +kernel) ⟨Nat.le_of_ble_eq_true rfl, Nat.le_of_ble_eq_true rfl⟩) rfl hl.1 rfl (Nat.le_of_ble_eq_true rfl) dL_law_55 (by omega) (by omega) ⟨(by show _ ≤ 600130; omega), (by show _ ≤ 7301080; omega)⟩ (fun r9 ad1 N1 g9 H locs hp hE hI => ?_)
  obtain ⟨g21, hg21⟩ : ∃ zz, zz = g9 := ⟨_, rfl⟩
  rw [← hg21] at hp hI
  obtain ⟨hr9, hFA, hST⟩ := hp
  subst hr9
  have hE : mE k ad1 N1 (A) s := hE
  have hI : mI k ad1 N1 g21 (A) s H locs := hI
  have hap : ad1 0 = ap := (hFA.1 0 (by omega)).trans hap
  have haS : ad1 50 = aS := (hFA.1 50 (by omega)).trans haS
  obtain ⟨uns, play, rd, n, lat, gar, T, ⟨came, mis, lost, bel, fig, fi, u, z, F⟩, ⟨came1, mis1, lost1, bel1, fig1, u1, ln, pg⟩, r, hC, hS, hW, hwf, hwv, hYR, hcm9⟩ := hST
  obtain ⟨e1, e2, e3, e4, e5, e6⟩ := id hYR
  have e1 : came = came1 := e1
  subst e1
  have e2 : mis = mis1 := e2
  subst e2
  have e3 : lost = lost1 := e3
  subst e3
  have e4 : bel = bel1 := e4
  subst e4
  have e5 : fig = fig1 := e5
  subst e5
  have e7 : u = u1 := e6.1.symm
  subst e7
  have hcm9 : came ≤ cm + 120 := hcm9
  have hwf : cWf (fi, u, z, F) := hwf
  have hwv : sWf (u, ln, pg) := hwv
  have hC : CR k ad1 g21 uns play rd n lat gar T (came, mis, lost, bel, fig, fi, u, z, F) r := hC
  have hS : SR k ad1 57 N1 g21 uns play rd n lat gar T (came, mis, lost, bel, fig, u, ln, pg) := hS
  have hNu : 57 + u ≤ N1 := hS.1.2
  obtain ⟨hpl9, hrd9, hn120, hgar9, hT, hlat9⟩ := id hW
  have hu0 : 0 < u := hwv.1
  have hu20 : u ≤ 20 := hwv.2.1
  have hz40 : ∀ l, l < u → z (slt fi l) ≤ 40 := fun l hl => by have h1 : z (slt fi l) = ln l := e6.2.1 l hl; rw [h1]; exact hwv.2.2 l hl
  refine m_zneB (tgt := 63) hx hb dL_law_58 (by decide) (fun c_58 => ?_) (fun c => absurd c (by decide))
  refine lv_aload_n hx hb dL_law_63 rfl (lv_at hl 2 rfl) ?_
  refine lv_iconst (v := nI 0) hx hb dL_law_64 (by decide) ?_
  refine m_stk (show ([.int (nI 0), .ref ap] : List Value) = [.int (nI 0), .ref (ad1 0)] from by rw [hap]) ?_
  refine m_callVn (As := [.int (nI 0)]) (rest := []) (c1 := c0 + 482) (s1 := s0 + 8412) ⟨hx, hb, hml, hown, hts⟩ hE hI (c_X3_count k l hst ad1 N1 g21 _ uns play rd n lat gar T came mis lost bel fig fi u z F r (nI 0) (by omega) hW hwf (by omega) hC) (fun E h => absurd (inN_nI (n := 11) (show 0 < 11 by omega) (by omega)) (by rw [h.2]; decide)) (cwV 1 hts gL_law_X3_count rfl rfl rfl (by decide +kernel) ⟨Nat.le_of_ble_eq_true rfl, Nat.le_of_ble_eq_true rfl⟩) (i := 0) (by omega) hC.1 rfl rfl hl.1 rfl (Nat.le_of_ble_eq_true rfl) dL_law_65 (by omega) (by omega) ⟨(by show _ ≤ 600130; omega), (by show _ ≤ 7301080; omega)⟩ (fun r9 g9 H locs hp hI => ?_)
  obtain ⟨_, hr9, hg9⟩ := hp
  rw [hg9] at hI
  rw [tn_nI (j := 0) (by omega)] at hr9
  refine m_top hr9 ?_
  refine m_top (show cntV u (sumz z fi u) fig play n rd came mis lost uns bel 0 = nI u from rfl) ?_
  refine lv_istore (lv' := [(5, .int (nI u)), (4, .int x9), (0, .ref b), (1, .ref ap), (2, .ref aS), (3, .int (nI t))]) hx hb dL_law_68 hl (by decide) rfl (fun ls hl => ?_)
  refine lv_aload_n hx hb dL_law_70 rfl (lv_at hl 3 rfl) ?_
  refine lv_iload hx hb dL_law_71 (lv_at hl 0 rfl) ?_
  refine lv_iconst (v := nI 1) hx hb dL_law_73 (by decide) ?_
  refine m_isubN hx hb (by omega) dL_law_74 ?_
  refine m_stk (show ([.int (nI (u - 1)), .ref ap] : List Value) = [.int (nI (u - 1)), .ref (ad1 0)] from by rw [hap]) ?_
  refine m_callVn (As := [.int (nI (u - 1))]) (rest := []) (c1 := c0 + 483) (s1 := s0 + 8418) ⟨hx, hb, hml, hown, hts⟩ hE hI (c_X3_length k l hst ad1 N1 g21 _ uns play rd n lat gar T came mis lost bel fig fi u z F r (nI (u - 1)) (by omega) hW hwf (by omega) hC) (fun E h => absurd (inN_nI (show u - 1 < u by omega) (by omega)) (by rw [h.2]; decide)) (cwV 1 hts gL_law_X3_length rfl rfl rfl (by decide +kernel) ⟨Nat.le_of_ble_eq_true rfl, Nat.le_of_ble_eq_true rfl⟩) (i := 0) (by omega) hC.1 rfl rfl hl.1 rfl (Nat.le_of_ble_eq_true rfl) dL_law_75 (by omega) (by omega) ⟨(by show _ ≤ 600130; omega), (by show _ ≤ 7301080; omega)⟩ (fun r9 g9 H locs hp hI => ?_)
  obtain ⟨_, hr9, hg9⟩ := hp
  rw [hg9] at hI
  rw [tn_nI (j := u - 1) (by omega)] at hr9
  refine m_top hr9 ?_
  obtain ⟨lst, hlst⟩ : ∃ zz, zz = z (slt fi (u - 1)) := ⟨_, rfl⟩
  refine m_top (show nI (z (slt fi (u - 1))) = nI lst from by rw [hlst]) ?_
  have hl40 : lst ≤ 40 := by rw [hlst]; exact hz40 _ (by omega)
  refine lv_istore (lv' := [(6, .int (nI lst)), (5, .int (nI u)), (4, .int x9), (0, .ref b), (1, .ref ap), (2, .ref aS), (3, .int (nI t))]) hx hb dL_law_78 hl (by decide) rfl (fun ls hl => ?_)
  refine lv_bipush (v := nI 11) hx hb dL_law_80 (by decide) ?_
  refine m_newi (n := 11) (c1 := c0 + 484) (s1 := s0 + 8429) hx hb (hts (.arrayClass .int) (by decide +kernel)) hE hI (by omega) (by omega) (by omega) (by show _ ≤ 600130; omega) (by show _ ≤ 7301080; omega) dL_law_82 (fun ad2 H hag2 hE hI => ?_)
  obtain ⟨g22, hg22⟩ : ∃ zz, zz = va_up g21 N1 (.inl (k.2.1.1, 11, .inl (fun _ => nI 0))) := ⟨_, rfl⟩
  have hE : mE k ad2 (N1 + 1) (A) s := hE
  replace hI : mI k ad2 (N1 + 1) g22 (A) s H locs := by rw [hg22]; exact hI
  have hgg2 : ∀ i, i < N1 → g22 i = g21 i := fun i hi => by rw [hg22, va_up_ne _ _ (by omega)]
  have hap : ad2 0 = ap := by rw [hag2 0 (by omega)]; exact hap
  have haS : ad2 50 = aS := by rw [hag2 50 (by omega)]; exact haS
  have hS : SR k ad2 57 (N1 + 1) g22 uns play rd n lat gar T (came, mis, lost, bel, fig, u, ln, pg) := SR.grow hS (by omega) (fun i hi => hag2 i (by omega)) (fun i hi => hgg2 i (by omega))
  have hC : CR k ad2 g22 uns play rd n lat gar T (came, mis, lost, bel, fig, fi, u, z, F) r := CR.moved hC (fun i hi => hag2 i (by omega)) (fun i hi => hgg2 i (by omega))
  have hnw2 : g22 N1 = .inl (k.2.1.1, 11, .inl (fun _ => nI 0)) := by rw [hg22, va_up_self]
  obtain ⟨adI, gI, hE, hI, hAI, hGI, hI57, hJ57, hS⟩ := SR.ins N1 hE hI hS (by omega)
  obtain ⟨g23, hg23⟩ : ∃ zz, zz = gI := ⟨_, rfl⟩
  rw [← hg23] at hI hGI hJ57 hS
  obtain ⟨aW, haW⟩ : ∃ zz, adI 57 = zz := ⟨_, rfl⟩
  refine m_stk (show ([.ref (ad2 N1)] : List Value) = [.ref aW] from by rw [← haW, hI57]) ?_
  have hw57 : g23 57 = .inl (k.2.1.1, 11, .inl (fun _ => nI 0)) := hJ57.trans hnw2
  have hE : mE k adI (58 + u) A s := hE
  have hI : mI k adI (58 + u) g23 (A) s H locs := hI
  have hS : SR k adI 58 (58 + u) g23 uns play rd n lat gar T (came, mis, lost, bel, fig, u, ln, pg) := hS
  have hC : CR k adI g23 uns play rd n lat gar T (came, mis, lost, bel, fig, fi, u, z, F) r := CR.moved hC (fun i hi => hAI i (by omega)) (fun i hi => hGI i (by omega))
  have hap : adI 0 = ap := (hAI 0 (by omega)).trans hap
  have haS : adI 50 = aS := (hAI 50 (by omega)).trans haS
  refine lv_astore (lv' := [(7, .ref aW), (6, .int (nI lst)), (5, .int (nI u)), (4, .int x9), (0, .ref b), (1, .ref ap), (2, .ref aS), (3, .int (nI t))]) hx hb dL_law_84 hl (by decide) rfl (fun ls hl => ?_)
  refine lv_iconst (v := nI 0) hx hb dL_law_86 (by decide) ?_
  refine lv_istore (lv' := [(8, .int (nI 0)), (7, .ref aW), (6, .int (nI lst)), (5, .int (nI u)), (4, .int x9), (0, .ref b), (1, .ref ap), (2, .ref aS), (3, .int (nI t))]) hx hb dL_law_87 hl (by decide) rfl (fun ls hl => ?_)
  rw [show (fun _ : Nat => nI 0) = fun q => if q < 0 then cntV u (sumz z fi u) fig play n rd came mis lost uns bel q else nI 0 from funext fun q => (if_neg (Nat.not_lt_zero q)).symm] at hw57
  refine m_cs (c1 := c0 + 484 + 0) (s1 := s0 + 8429 + 6 * 0) (by omega) (by omega) ?_
  refine m_loopG (σ := Nat × (Nat → va_E)) (fun x H locs ls => x.1 ≤ 11 ∧ mI k adI (58 + u) x.2 A s H locs ∧ CR k adI x.2 uns play rd n lat gar T (came, mis, lost, bel, fig, fi, u, z, F) r ∧ SR k adI 58 (58 + u) x.2 uns play rd n lat gar T (came, mis, lost, bel, fig, u, ln, pg) ∧ x.2 57 = .inl (k.2.1.1, 11, .inl (fun q => if q < x.1 then cntV u (sumz z fi u) fig play n rd came mis lost uns bel q else nI 0)) ∧ lv_has ls 24 [(7, .ref aW), (6, .int (nI lst)), (5, .int (nI u)), (4, .int x9), (0, .ref b), (1, .ref ap), (2, .ref aS), (3, .int (nI t)), (8, .int (nI x.1))]) (fun x => 11 - x.1) (fun x => c0 + 484 + x.1) (fun x => s0 + 8429 + 6 * x.1) (0, g23) ⟨Nat.zero_le _, hI, hC, hS, hw57, lv_sub hl [1, 2, 3, 4, 5, 6, 7, 8, 0] rfl⟩ ?_
  rintro ⟨k9, gW⟩ ih H locs ls ⟨hk9, hI, hC, hS, hw57, hl⟩
  have hk9 : k9 ≤ 11 := hk9
  obtain ⟨g24, hg24⟩ : ∃ zz, zz = gW := ⟨_, rfl⟩
  have hI : mI k adI (58 + u) g24 (A) s H locs := by rw [hg24]; exact hI
  have hC : CR k adI g24 uns play rd n lat gar T (came, mis, lost, bel, fig, fi, u, z, F) r := by rw [hg24]; exact hC
  have hS : SR k adI 58 (58 + u) g24 uns play rd n lat gar T (came, mis, lost, bel, fig, u, ln, pg) := by rw [hg24]; exact hS
  have hw57 : g24 57 = .inl (k.2.1.1, 11, .inl (fun q => if q < k9 then cntV u (sumz z fi u) fig play n rd came mis lost uns bel q else nI 0)) := by rw [hg24]; exact hw57
  have hl : lv_has ls 24 [(7, .ref aW), (6, .int (nI lst)), (5, .int (nI u)), (4, .int x9), (0, .ref b), (1, .ref ap), (2, .ref aS), (3, .int (nI t)), (8, .int (nI k9))] := hl
  show W p l e _ s m _ below meth c _ _ (c0 + 484 + k9) (s0 + 8429 + 6 * k9) _ _
  refine lv_iload hx hb dL_law_89 (lv_at hl 8 rfl) ?_
  refine lv_bipush (v := nI 11) hx hb dL_law_91 (by decide) ?_
  refine m_cgeN (tgt := 113) hx hb (by omega) (by omega) dL_law_93 (by decide) (fun c_93 => ?_) (fun c_93 => ?_)
  · have hk11 : k9 = 11 := by omega
    refine m_cs (c1 := c0 + 495) (s1 := s0 + 8495) (by omega) (by omega) ?_
    replace hI := m_fni hI 57 (by omega) (cntV u (sumz z fi u) fig play n rd came mis lost uns bel) hw57 (fun j hj => if_pos (by omega))
    obtain ⟨g25, hg25⟩ : ∃ zz, zz = va_up g24 57 (.inl (k.2.1.1, 11, .inl (cntV u (sumz z fi u) fig play n rd came mis lost uns bel))) := ⟨_, rfl⟩
    replace hI : mI k adI (58 + u) g25 (A) s H locs := by rw [hg25]; exact hI
    have hS : SR k adI 58 (58 + u) g25 uns play rd n lat gar T (came, mis, lost, bel, fig, u, ln, pg) := by rw [hg25]; exact SR.offx hS (by omega) (by omega)
    have hC : CR k adI g25 uns play rd n lat gar T (came, mis, lost, bel, fig, fi, u, z, F) r := by rw [hg25]; exact CR.kept hC (fun i hi => va_up_ne _ _ (by omega))
    have hw57 : g25 57 = .inl (k.2.1.1, 11, .inl (cntV u (sumz z fi u) fig play n rd came mis lost uns bel)) := by rw [hg25, va_up_self]
    refine lv_iload hx hb dL_law_113 (lv_at hl 3 rfl) ?_
    refine lv_iconst (v := nI 3) hx hb dL_law_115 (by decide) ?_
    refine lv_ishr hx hb dL_law_116 ?_
    refine lv_bipush (v := nI 32) hx hb dL_law_117 (by decide) ?_
    refine m_callSi (As := [.int (x9 >>> ((nI 3) &&& 31)), .int (nI 32)]) (rest := []) ⟨hx, hb, hml, hown, hts⟩ hE hI (c_L_below k l adI (58 + u) g25 _ (x9 >>> ((nI 3) &&& 31)) 32 (by omega) (by omega)) (va_cwS 2 hts gL_law_L_below rfl rfl rfl (by decide +kernel) ⟨Nat.le_of_ble_eq_true rfl, Nat.le_of_ble_eq_true rfl⟩) rfl hl.1 rfl (Nat.le_of_ble_eq_true rfl) dL_law_119 ⟨(by show _ ≤ 600130; omega), (by show _ ≤ 7301080; omega)⟩ (m_deti (fun H locs hI => ?_))
    have hbw_1 := blw_lt (v := x9 >>> ((nI 3) &&& 31)) (b := 32) (by omega)
    obtain ⟨co9, hco9⟩ : ∃ zz, zz = blw (x9 >>> ((nI 3) &&& 31)) 32 := ⟨_, rfl⟩
    refine m_top (show nI (blw (x9 >>> ((nI 3) &&& 31)) 32) = nI co9 from by rw [hco9]) ?_
    have hbco9 : co9 < 32 := by rw [hco9]; omega
    refine lv_istore (lv' := [(8, .int (nI co9)), (7, .ref aW), (6, .int (nI lst)), (5, .int (nI u)), (4, .int x9), (0, .ref b), (1, .ref ap), (2, .ref aS), (3, .int (nI t))]) hx hb dL_law_122 hl (by decide) rfl (fun ls hl => ?_)
    refine lv_aload_n hx hb dL_law_124 rfl (lv_at hl 6 rfl) ?_
    refine lv_iload hx hb dL_law_125 (lv_at hl 0 rfl) ?_
    refine m_stk (show ([.int (nI co9), .ref ap] : List Value) = [.int (nI co9), .ref (adI 0)] from by rw [hap]) ?_
    refine m_callVn (As := [.int (nI co9)]) (rest := []) (c1 := c0 + 496) (s1 := s0 + 8501) ⟨hx, hb, hml, hown, hts⟩ hE hI (c_X3_would k l hst adI (58 + u) g25 _ uns play rd n lat gar T came mis lost bel fig fi u z F r (nI co9) (by omega) hW hwf (by omega) hC) (fun E h => absurd (inN_nI (n := 32) (show co9 < 32 by omega) (by omega)) (by rw [h.2]; decide)) (cwV 1 hts gL_law_X3_would rfl rfl rfl (by decide +kernel) ⟨Nat.le_of_ble_eq_true rfl, Nat.le_of_ble_eq_true rfl⟩) (i := 0) (by omega) hC.1 rfl rfl hl.1 rfl (Nat.le_of_ble_eq_true rfl) dL_law_127 (by omega) (by omega) ⟨(by show _ ≤ 600130; omega), (by show _ ≤ 7301080; omega)⟩ (fun r9 g9 H locs hp hI => ?_)
    obtain ⟨_, hr9, hg9⟩ := hp
    rw [hg9] at hI
    rw [tn_nI (j := co9) (by omega)] at hr9
    refine m_top hr9 ?_
    obtain ⟨t9, ht9⟩ : ∃ zz, zz = rdY play lat gar came co9 := ⟨_, rfl⟩
    refine m_top (show nI (rdY play lat gar came co9) = nI t9 from by rw [ht9]) ?_
    have ht32 : t9 < 32 := by rw [ht9]; exact rdF_lt (by omega) (hgar9 _ (Nat.mod_lt _ (by omega)))
    refine lv_istore (lv' := [(9, .int (nI t9)), (8, .int (nI co9)), (7, .ref aW), (6, .int (nI lst)), (5, .int (nI u)), (4, .int x9), (0, .ref b), (1, .ref ap), (2, .ref aS), (3, .int (nI t))]) hx hb dL_law_130 hl (by decide) rfl (fun ls hl => ?_)
    refine lv_aload_n hx hb dL_law_132 rfl (lv_at hl 7 rfl) ?_
    refine lv_iconst (v := nI 0) hx hb dL_law_133 (by decide) ?_
    refine m_stk (show ([.int (nI 0), .ref ap] : List Value) = [.int (nI 0), .ref (adI 0)] from by rw [hap]) ?_
    refine m_callVn (As := [.int (nI 0)]) (rest := []) (c1 := c0 + 497) (s1 := s0 + 8507) ⟨hx, hb, hml, hown, hts⟩ hE hI (c_X3_length k l hst adI (58 + u) g25 _ uns play rd n lat gar T came mis lost bel fig fi u z F r (nI 0) (by omega) hW hwf (by omega) hC) (fun E h => absurd (inN_nI (show 0 < u by omega) (by omega)) (by rw [h.2]; decide)) (cwV 1 hts gL_law_X3_length rfl rfl rfl (by decide +kernel) ⟨Nat.le_of_ble_eq_true rfl, Nat.le_of_ble_eq_true rfl⟩) (i := 0) (by omega) hC.1 rfl rfl hl.1 rfl (Nat.le_of_ble_eq_true rfl) dL_law_134 (by omega) (by omega) ⟨(by show _ ≤ 600130; omega), (by show _ ≤ 7301080; omega)⟩ (fun r9 g9 H locs hp hI => ?_)
    obtain ⟨_, hr9, hg9⟩ := hp
    rw [hg9] at hI
    rw [tn_nI (j := 0) (by omega)] at hr9
    refine m_top hr9 ?_
    obtain ⟨fst9, hfst⟩ : ∃ zz, zz = z (slt fi 0) := ⟨_, rfl⟩
    refine m_top (show nI (z (slt fi 0)) = nI fst9 from by rw [hfst]) ?_
    have hf40 : fst9 ≤ 40 := by rw [hfst]; exact hz40 _ (by omega)
    refine lv_istore (lv' := [(10, .int (nI fst9)), (9, .int (nI t9)), (8, .int (nI co9)), (7, .ref aW), (6, .int (nI lst)), (5, .int (nI u)), (4, .int x9), (0, .ref b), (1, .ref ap), (2, .ref aS), (3, .int (nI t))]) hx hb dL_law_137 hl (by decide) rfl (fun ls hl => ?_)
    refine lv_aload_n hx hb dL_law_139 rfl (lv_at hl 8 rfl) ?_
    refine lv_iload hx hb dL_law_140 (lv_at hl 2 rfl) ?_
    refine m_stk (show ([.int (nI co9), .ref ap] : List Value) = [.int (nI co9), .ref (adI 0)] from by rw [hap]) ?_
    refine m_callVn (As := [.int (nI co9)]) (rest := []) (c1 := c0 + 498) (s1 := s0 + 8513) ⟨hx, hb, hml, hown, hts⟩ hE hI (c_X3_receive k l hst adI (58 + u) g25 _ uns play rd n lat gar T came mis lost bel fig fi u z F r (nI co9) (by omega) hW hwf (by omega) hC) (fun E h => absurd (inN_nI (n := 32) (show co9 < 32 by omega) (by omega)) (by rw [h.2]; decide)) (cwV 1 hts gL_law_X3_receive rfl rfl rfl (by decide +kernel) ⟨Nat.le_of_ble_eq_true rfl, Nat.le_of_ble_eq_true rfl⟩) (i := 0) (by omega) hC.1 rfl rfl hl.1 rfl (Nat.le_of_ble_eq_true rfl) dL_law_142 (by omega) (by omega) ⟨(by show _ ≤ 600130; omega), (by show _ ≤ 7301080; omega)⟩ (fun r9 g9 H locs hp hI => ?_)
    obtain ⟨g26, hg26⟩ : ∃ zz, zz = g9 := ⟨_, rfl⟩
    rw [← hg26] at hp hI
    obtain ⟨_, hr9, hC9, hk9⟩ := hp
    rw [tn_nI (j := co9) (by omega)] at hr9
    rw [tn_nI (j := co9) (by omega)] at hC9
    refine m_top hr9 ?_
    have hI : mI k adI (58 + u) g26 (A) s H locs := hI
    have hC : CR k adI g26 uns play rd n lat gar T (yIn cNl cFull cAdd uns play lat gar co9 (came, mis, lost, bel, fig, fi, u, z, F)) r := hC9
    have hS : SR k adI 58 (58 + u) g26 uns play rd n lat gar T (came, mis, lost, bel, fig, u, ln, pg) := SR.kept hS hk9
    have hw57 : g26 57 = .inl (k.2.1.1, 11, .inl (cntV u (sumz z fi u) fig play n rd came mis lost uns bel)) := by rw [hk9 _ (by omega)]; exact hw57
    obtain ⟨v8, hv8⟩ : ∃ zz, zz = yIn cNl cFull cAdd uns play lat gar co9 (came, mis, lost, bel, fig, fi, u, z, F) := ⟨_, rfl⟩
    rw [← hv8] at hC
    obtain ⟨caC, miC, loC, beC, fgC, fiC, uC, zC, FC⟩ := v8
    have hC : CR k adI g26 uns play rd n lat gar T (caC, miC, loC, beC, fgC, fiC, uC, zC, FC) r := hC
    refine m_top (show nI (rdY play lat gar came co9) = nI t9 from by rw [ht9]) ?_
    have hwf0 := hwf
    have hwf : cWf (fiC, uC, zC, FC) := by have h1 : cWf (caC, miC, loC, beC, fgC, fiC, uC, zC, FC).2.2.2.2.2 := (by rw [hv8]; exact cWf_in (y := (came, mis, lost, bel, fig, fi, u, z, F)) hwf); exact h1
    have q1 : caC = came + 1 := congrArg (fun y : YT PC => y.1) hv8
    have q2 : miC = if rdY play lat gar came co9 = co9 then mis else mis + 1 := congrArg (fun y : YT PC => y.2.1) hv8
    have q3 : loC = lOb cFull (chF (rdY play lat gar came co9) fig) (fi, u, z, F) lost := congrArg (fun y : YT PC => y.2.2.1) hv8
    have q4 : beC = if rdY play lat gar came co9 = 8 then bel + 1 else bel := congrArg (fun y : YT PC => y.2.2.2.1) hv8
    have q5 : fgC = fb uns (rdY play lat gar came co9) fig := congrArg (fun y : YT PC => y.2.2.2.2.1) hv8
    have q6 : (fiC, uC, zC, FC) = pOb cNl cFull cAdd (chF (rdY play lat gar came co9) fig) (fi, u, z, F) := congrArg (fun y : YT PC => y.2.2.2.2.2) hv8
    rw [← ht9] at q2 q3 q4 q5 q6
    refine lv_istore (lv' := [(11, .int (nI t9)), (10, .int (nI fst9)), (9, .int (nI t9)), (8, .int (nI co9)), (7, .ref aW), (6, .int (nI lst)), (5, .int (nI u)), (4, .int x9), (0, .ref b), (1, .ref ap), (2, .ref aS), (3, .int (nI t))]) hx hb dL_law_145 hl (by decide) rfl (fun ls hl => ?_)
    refine lv_iload hx hb dL_law_147 (lv_at hl 0 rfl) ?_
    refine lv_iload hx hb dL_law_149 (lv_at hl 2 rfl) ?_
    refine m_cneN (tgt := 232) hx hb (by omega) (by omega) dL_law_151 (by decide) (fun c_151 => ?_) (fun c_151 => ?_)
    · exact absurd rfl c_151
    · refine lv_iload hx hb dL_law_154 (lv_at hl 0 rfl) ?_
      refine lv_aload_n hx hb dL_law_156 rfl (lv_at hl 10 rfl) ?_
      refine lv_iload hx hb dL_law_157 (lv_at hl 3 rfl) ?_
      have hF : FRA adI g26 58 adI g26 := FRA.rf
      refine m_stk (show ([.int (nI co9), .ref aS, .int (nI t9)] : List Value) = [.int (nI co9), .ref (adI 50), .int (nI t9)] from by rw [haS]) ?_
      refine m_callVgi (As := [.int (nI co9)]) (rest := [.int (nI t9)]) (c1 := c0 + 502) (s1 := s0 + 8583) ⟨hx, hb, hml, hown, hts⟩ hE hI (c_X4_come k l adI (58 + u) g26 _ uns play rd n lat gar T came mis lost bel fig u ln pg 58 co9 (hW.1) (hW.2.2.2.2.2) (hW.2.2.2.1) (by omega) (by omega) hwv hS) (cwV 1 hts gL_law_X4_come rfl rfl rfl (by decide +kernel) ⟨Nat.le_of_ble_eq_true rfl, Nat.le_of_ble_eq_true rfl⟩) (i := 50) (by omega) (show g26 50 = .inr (4, [.ref (adI 51), .ref (adI 52), .ref (adI 53), .int (bI fig), .int (bI uns), .int (nI play), .ref (adI 54), .ref (adI 55), .ref (adI 56), .int (nI rd), .int (nI came), .int mis, .int lost, .int bel]) from hS.2.1) rfl rfl hl.1 rfl (Nat.le_of_ble_eq_true rfl) dL_law_159 (by omega) (by omega) ⟨(by show _ ≤ 600130; omega), (by show _ ≤ 7301080; omega)⟩ (fun r9 ad3 N3 g9 H locs hp hE hI => ?_)
      obtain ⟨g27, hg27⟩ : ∃ zz, zz = g9 := ⟨_, rfl⟩
      rw [← hg27] at hp hI
      obtain ⟨hr9, hFC, hGC, hS9⟩ := hp
      subst hr9
      have hE : mE k ad3 N3 (A) s := hE
      have hI : mI k ad3 N3 g27 (A) s H locs := hI
      have hap : ad3 0 = ap := (hFC.1 0 (by omega)).trans hap
      have haS : ad3 50 = aS := (hFC.1 50 (by omega)).trans haS
      have haW : ad3 57 = aW := (hFC.2.1 57 (by omega) (by omega)).trans haW
      have hF : FRA adI g26 58 ad3 g27 := FRA.go hF hFC
      have hC : CR k ad3 g27 uns play rd n lat gar T (caC, miC, loC, beC, fgC, fiC, uC, zC, FC) r := CR.moved hC (fun i hi => hFC.1 i (by omega)) hGC
      obtain ⟨vv1, hvv1⟩ : ∃ zz, zz = yIn sNl sFull sAdd uns play lat gar co9 (came, mis, lost, bel, fig, u, ln, pg) := ⟨_, rfl⟩
      rw [← hvv1] at hS9
      obtain ⟨sc1, sm1, so1, sb1, sf1, su1, sl1, sp1⟩ := vv1
      have hS : SR k ad3 58 N3 g27 uns play rd n lat gar T (sc1, sm1, so1, sb1, sf1, su1, sl1, sp1) := hS9
      have hNu : 58 + su1 ≤ N3 := hS.1.2
      have hYR2 : YRS (caC, miC, loC, beC, fgC, fiC, uC, zC, FC) (sc1, sm1, so1, sb1, sf1, su1, sl1, sp1) := by rw [hv8, hvv1]; exact YRS_in uns play lat gar co9 (y := (came, mis, lost, bel, fig, fi, u, z, F)) (v := (came, mis, lost, bel, fig, u, ln, pg)) hwf0 hwv hYR
      have hwv2 : sWf (su1, sl1, sp1) := by have h1 : sWf (sc1, sm1, so1, sb1, sf1, su1, sl1, sp1).2.2.2.2.2 := (by rw [hvv1]; exact sWf_in (y := (came, mis, lost, bel, fig, u, ln, pg)) hwv); exact h1
      obtain ⟨d1, d2, d3, d4, d5, d6⟩ := id hYR2
      have d1 : caC = sc1 := d1
      have d2 : miC = sm1 := d2
      have d3 : loC = so1 := d3
      have d4 : beC = sb1 := d4
      have d5 : fgC = sf1 := d5
      have d7 : uC = su1 := d6.1.symm
      rw [← d1, ← d2, ← d3, ← d4, ← d5, ← d7] at hS hYR2
      rw [← d7] at hwv2 hNu
      have hS : SR k ad3 58 N3 g27 uns play rd n lat gar T (caC, miC, loC, beC, fgC, uC, sl1, sp1) := hS
      have hw57 : g27 57 = .inl (k.2.1.1, 11, .inl (cntV u (sumz z fi u) fig play n rd came mis lost uns bel)) := by rw [hFC.2.2 57 (by omega) (by omega)]; exact hw57
      refine m_top (show nI (rdY play lat gar came co9) = nI t9 from by rw [ht9]) ?_
      refine m_cneN (tgt := 232) hx hb (by omega) (by omega) dL_law_162 (by decide) (fun c_162 => ?_) (fun c_162 => ?_)
      · exact absurd rfl c_162
      · refine lv_aload_n hx hb dL_law_165 rfl (lv_at hl 9 rfl) ?_
        refine lv_bipush (v := nI 6) hx hb dL_law_166 (by decide) ?_
        refine m_stk (show ([.int (nI 6), .ref ap] : List Value) = [.int (nI 6), .ref (ad3 0)] from by rw [hap]) ?_
        refine m_callVn (As := [.int (nI 6)]) (rest := []) (c1 := c0 + 503) (s1 := s0 + 8589) ⟨hx, hb, hml, hown, hts⟩ hE hI (c_X3_count k l hst ad3 N3 g27 _ uns play rd n lat gar T caC miC loC beC fgC fiC uC zC FC r (nI 6) (by omega) hW hwf (by omega) hC) (fun E h => absurd (inN_nI (n := 11) (show 6 < 11 by omega) (by omega)) (by rw [h.2]; decide)) (cwV 1 hts gL_law_X3_count rfl rfl rfl (by decide +kernel) ⟨Nat.le_of_ble_eq_true rfl, Nat.le_of_ble_eq_true rfl⟩) (i := 0) (by omega) hC.1 rfl rfl hl.1 rfl (Nat.le_of_ble_eq_true rfl) dL_law_168 (by omega) (by omega) ⟨(by show _ ≤ 600130; omega), (by show _ ≤ 7301080; omega)⟩ (fun r9 g9 H locs hp hI => ?_)
        obtain ⟨_, hr9, hg9⟩ := hp
        rw [hg9] at hI
        rw [tn_nI (j := 6) (by omega)] at hr9
        refine m_top hr9 ?_
        refine m_top (show cntV uC (sumz zC fiC uC) fgC play n rd caC miC loC uns beC 6 = nI caC from rfl) ?_
        refine lv_aload hx hb dL_law_171 (lv_at hl 4 rfl) ?_
        refine lv_bipush (v := nI 6) hx hb dL_law_173 (by decide) ?_
        refine m_stk (show ([.int (nI 6), .ref aW, .int (nI caC)] : List Value) = [.int (nI 6), .ref (ad3 57), .int (nI caC)] from by rw [haW]) ?_
        refine m_iald hx hb hE hI 57 (by omega) (j := 6) hw57 (by omega) (by omega) dL_law_175 ?_
        refine m_top (show (cntV u (sumz z fi u) fig play n rd came mis lost uns bel) 6 = nI came from rfl) ?_
        refine lv_iconst (v := nI 1) hx hb dL_law_176 (by decide) ?_
        refine m_iaddN hx hb dL_law_177 ?_
        refine m_cneN (tgt := 232) hx hb (by omega) (by omega) dL_law_178 (by decide) (fun c_178 => ?_) (fun c_178 => ?_)
        · exact absurd q1 c_178
        · refine lv_aload_n hx hb dL_law_181 rfl (lv_at hl 9 rfl) ?_
          refine lv_bipush (v := nI 7) hx hb dL_law_182 (by decide) ?_
          refine m_stk (show ([.int (nI 7), .ref ap] : List Value) = [.int (nI 7), .ref (ad3 0)] from by rw [hap]) ?_
          refine m_callVn (As := [.int (nI 7)]) (rest := []) (c1 := c0 + 504) (s1 := s0 + 8595) ⟨hx, hb, hml, hown, hts⟩ hE hI (c_X3_count k l hst ad3 N3 g27 _ uns play rd n lat gar T caC miC loC beC fgC fiC uC zC FC r (nI 7) (by omega) hW hwf (by omega) hC) (fun E h => absurd (inN_nI (n := 11) (show 7 < 11 by omega) (by omega)) (by rw [h.2]; decide)) (cwV 1 hts gL_law_X3_count rfl rfl rfl (by decide +kernel) ⟨Nat.le_of_ble_eq_true rfl, Nat.le_of_ble_eq_true rfl⟩) (i := 0) (by omega) hC.1 rfl rfl hl.1 rfl (Nat.le_of_ble_eq_true rfl) dL_law_184 (by omega) (by omega) ⟨(by show _ ≤ 600130; omega), (by show _ ≤ 7301080; omega)⟩ (fun r9 g9 H locs hp hI => ?_)
          obtain ⟨_, hr9, hg9⟩ := hp
          rw [hg9] at hI
          rw [tn_nI (j := 7) (by omega)] at hr9
          refine m_top hr9 ?_
          refine m_top (show cntV uC (sumz zC fiC uC) fgC play n rd caC miC loC uns beC 7 = miC from rfl) ?_
          refine lv_aload hx hb dL_law_187 (lv_at hl 4 rfl) ?_
          refine lv_bipush (v := nI 7) hx hb dL_law_189 (by decide) ?_
          refine m_stk (show ([.int (nI 7), .ref aW, .int miC] : List Value) = [.int (nI 7), .ref (ad3 57), .int miC] from by rw [haW]) ?_
          refine m_iald hx hb hE hI 57 (by omega) (j := 7) hw57 (by omega) (by omega) dL_law_191 ?_
          refine m_top (show (cntV u (sumz z fi u) fig play n rd came mis lost uns bel) 7 = mis from rfl) ?_
          refine m_via hI 204 ([.int (nI (if t9 = co9 then 0 else 1)), .int mis, .int miC]) (fun K => ?_) (fun H locs hI => ?_)
          · refine lv_iload hx hb dL_law_192 (lv_at hl 0 rfl) ?_
            refine lv_iload hx hb dL_law_194 (lv_at hl 3 rfl) ?_
            refine m_cneN (tgt := 203) hx hb (by omega) (by omega) dL_law_196 (by decide) (fun c_196 => ?_) (fun c_196 => ?_)
            · refine lv_iconst (v := nI 1) hx hb dL_law_203 (by decide) ?_
              refine m_top (show nI 1 = nI (if t9 = co9 then 0 else 1) from by rw [if_neg c_196]) ?_
              exact K H locs hI
            · refine lv_iconst (v := nI 0) hx hb dL_law_199 (by decide) ?_
              refine lv_goto (tgt := 204) hx hb dL_law_200 (by decide) ?_
              refine m_top (show nI 0 = nI (if t9 = co9 then 0 else 1) from by rw [if_pos c_196]) ?_
              exact K H locs hI
          refine lv_iadd hx hb dL_law_204 ?_
          refine lv_icmp_ne (tgt := 232) hx hb dL_law_205 (by decide) (fun c_205 => ?_) (fun c_205 => ?_)
          · exact absurd (q2.trans (mis_if _ _)) c_205
          · refine lv_aload_n hx hb dL_law_208 rfl (lv_at hl 9 rfl) ?_
            refine lv_iconst (v := nI 4) hx hb dL_law_209 (by decide) ?_
            refine m_stk (show ([.int (nI 4), .ref ap] : List Value) = [.int (nI 4), .ref (ad3 0)] from by rw [hap]) ?_
            refine m_callVn (As := [.int (nI 4)]) (rest := []) (c1 := c0 + 505) (s1 := s0 + 8601) ⟨hx, hb, hml, hown, hts⟩ hE hI (c_X3_count k l hst ad3 N3 g27 _ uns play rd n lat gar T caC miC loC beC fgC fiC uC zC FC r (nI 4) (by omega) hW hwf (by omega) hC) (fun E h => absurd (inN_nI (n := 11) (show 4 < 11 by omega) (by omega)) (by rw [h.2]; decide)) (cwV 1 hts gL_law_X3_count rfl rfl rfl (by decide +kernel) ⟨Nat.le_of_ble_eq_true rfl, Nat.le_of_ble_eq_true rfl⟩) (i := 0) (by omega) hC.1 rfl rfl hl.1 rfl (Nat.le_of_ble_eq_true rfl) dL_law_210 (by omega) (by omega) ⟨(by show _ ≤ 600130; omega), (by show _ ≤ 7301080; omega)⟩ (fun r9 g9 H locs hp hI => ?_)
            obtain ⟨_, hr9, hg9⟩ := hp
            rw [hg9] at hI
            rw [tn_nI (j := 4) (by omega)] at hr9
            refine m_top hr9 ?_
            refine m_top (show cntV uC (sumz zC fiC uC) fgC play n rd caC miC loC uns beC 4 = nI n from rfl) ?_
            refine lv_aload hx hb dL_law_213 (lv_at hl 4 rfl) ?_
            refine lv_iconst (v := nI 4) hx hb dL_law_215 (by decide) ?_
            refine m_stk (show ([.int (nI 4), .ref aW, .int (nI n)] : List Value) = [.int (nI 4), .ref (ad3 57), .int (nI n)] from by rw [haW]) ?_
            refine m_iald hx hb hE hI 57 (by omega) (j := 4) hw57 (by omega) (by omega) dL_law_216 ?_
            refine m_top (show (cntV u (sumz z fi u) fig play n rd came mis lost uns bel) 4 = nI n from rfl) ?_
            refine m_cneN (tgt := 232) hx hb (by omega) (by omega) dL_law_217 (by decide) (fun c_217 => ?_) (fun c_217 => ?_)
            · exact absurd rfl c_217
            · refine lv_aload_n hx hb dL_law_220 rfl (lv_at hl 9 rfl) ?_
              refine lv_iconst (v := nI 5) hx hb dL_law_221 (by decide) ?_
              refine m_stk (show ([.int (nI 5), .ref ap] : List Value) = [.int (nI 5), .ref (ad3 0)] from by rw [hap]) ?_
              refine m_callVn (As := [.int (nI 5)]) (rest := []) (c1 := c0 + 506) (s1 := s0 + 8607) ⟨hx, hb, hml, hown, hts⟩ hE hI (c_X3_count k l hst ad3 N3 g27 _ uns play rd n lat gar T caC miC loC beC fgC fiC uC zC FC r (nI 5) (by omega) hW hwf (by omega) hC) (fun E h => absurd (inN_nI (n := 11) (show 5 < 11 by omega) (by omega)) (by rw [h.2]; decide)) (cwV 1 hts gL_law_X3_count rfl rfl rfl (by decide +kernel) ⟨Nat.le_of_ble_eq_true rfl, Nat.le_of_ble_eq_true rfl⟩) (i := 0) (by omega) hC.1 rfl rfl hl.1 rfl (Nat.le_of_ble_eq_true rfl) dL_law_222 (by omega) (by omega) ⟨(by show _ ≤ 600130; omega), (by show _ ≤ 7301080; omega)⟩ (fun r9 g9 H locs hp hI => ?_)
              obtain ⟨_, hr9, hg9⟩ := hp
              rw [hg9] at hI
              rw [tn_nI (j := 5) (by omega)] at hr9
              refine m_top hr9 ?_
              refine m_top (show cntV uC (sumz zC fiC uC) fgC play n rd caC miC loC uns beC 5 = nI rd from rfl) ?_
              refine lv_aload hx hb dL_law_225 (lv_at hl 4 rfl) ?_
              refine lv_iconst (v := nI 5) hx hb dL_law_227 (by decide) ?_
              refine m_stk (show ([.int (nI 5), .ref aW, .int (nI rd)] : List Value) = [.int (nI 5), .ref (ad3 57), .int (nI rd)] from by rw [haW]) ?_
              refine m_iald hx hb hE hI 57 (by omega) (j := 5) hw57 (by omega) (by omega) dL_law_228 ?_
              refine m_top (show (cntV u (sumz z fi u) fig play n rd came mis lost uns bel) 5 = nI rd from rfl) ?_
              refine m_ceqN (tgt := 234) hx hb (by omega) (by omega) dL_law_229 (by decide) (fun c_229 => ?_) (fun c_229 => ?_)
              · refine lv_aload_n hx hb dL_law_234 rfl (lv_at hl 9 rfl) ?_
                refine lv_iload hx hb dL_law_235 (lv_at hl 0 rfl) ?_
                refine lv_aload hx hb dL_law_237 (lv_at hl 4 rfl) ?_
                refine lv_iconst (v := nI 2) hx hb dL_law_239 (by decide) ?_
                refine m_stk (show ([.int (nI 2), .ref aW, .int (nI t9), .ref ap] : List Value) = [.int (nI 2), .ref (ad3 57), .int (nI t9), .ref ap] from by rw [haW]) ?_
                refine m_iald hx hb hE hI 57 (by omega) (j := 2) hw57 (by omega) (by omega) dL_law_240 ?_
                refine m_top (show (cntV u (sumz z fi u) fig play n rd came mis lost uns bel) 2 = bI fig from rfl) ?_
                refine m_via hI 250 ([.int (bI fig), .int (nI t9), .ref ap]) (fun K => ?_) (fun H locs hI => ?_)
                · refine lv_iconst (v := nI 1) hx hb dL_law_241 (by decide) ?_
                  refine lv_icmp_ne (tgt := 249) hx hb dL_law_242 (by decide) (fun c_242 => ?_) (fun c_242 => ?_)
                  · refine lv_iconst (v := nI 0) hx hb dL_law_249 (by decide) ?_
                    refine m_top (show nI 0 = bI fig from by revert c_242; cases fig <;> decide) ?_
                    exact K H locs hI
                  · refine lv_iconst (v := nI 1) hx hb dL_law_245 (by decide) ?_
                    refine lv_goto (tgt := 250) hx hb dL_law_246 (by decide) ?_
                    refine m_top (show nI 1 = bI fig from by revert c_242; cases fig <;> decide) ?_
                    exact K H locs hI
                refine m_stk (show ([.int (bI fig), .int (nI t9), .ref ap] : List Value) = [.int (bI fig), .int (nI t9), .ref (ad3 0)] from by rw [hap]) ?_
                refine m_callVn (As := [.int (nI t9), .int (bI fig)]) (rest := []) (c1 := c0 + 507) (s1 := s0 + 8613) ⟨hx, hb, hml, hown, hts⟩ hE hI (c_X3_character k l hst ad3 N3 g27 _ uns play rd n lat gar T caC miC loC beC fgC fiC uC zC FC r (nI t9) fig (by omega) hW hwf (by omega) hC) (fun E h => absurd (inN_nI (n := 32) (show t9 < 32 by omega) (by omega)) (by rw [h.2]; decide)) (cwV 2 hts gL_law_X3_character rfl rfl rfl (by decide +kernel) ⟨Nat.le_of_ble_eq_true rfl, Nat.le_of_ble_eq_true rfl⟩) (i := 0) (by omega) hC.1 rfl rfl hl.1 rfl (Nat.le_of_ble_eq_true rfl) dL_law_250 (by omega) (by omega) ⟨(by show _ ≤ 600130; omega), (by show _ ≤ 7301080; omega)⟩ (fun r9 g9 H locs hp hI => ?_)
                obtain ⟨_, hr9, hg9⟩ := hp
                rw [hg9] at hI
                rw [tn_nI (j := t9) (by omega)] at hr9
                refine m_top hr9 ?_
                obtain ⟨ch9, hch9⟩ : ∃ zz, zz = chF t9 fig := ⟨_, rfl⟩
                refine m_top (show nI (chF t9 fig) = nI ch9 from by rw [hch9]) ?_
                have hch54 : ch9 ≤ 54 := by rw [hch9]; exact chF_le _ ht32 _
                rw [← hch9] at q3 q6
                refine lv_istore (lv' := [(12, .int (nI ch9)), (11, .int (nI t9)), (10, .int (nI fst9)), (9, .int (nI t9)), (8, .int (nI co9)), (7, .ref aW), (6, .int (nI lst)), (5, .int (nI u)), (4, .int x9), (0, .ref b), (1, .ref ap), (2, .ref aS), (3, .int (nI t))]) hx hb dL_law_253 hl (by decide) rfl (fun ls hl => ?_)
                obtain ⟨nw9, hnw⟩ : ∃ zz, zz = decide (ch9 = 54) := ⟨_, rfl⟩
                refine m_via hI 267 ([.int (bI nw9)]) (fun K => ?_) (fun H locs hI => ?_)
                · refine lv_iload hx hb dL_law_255 (lv_at hl 0 rfl) ?_
                  refine lv_bipush (v := nI 54) hx hb dL_law_257 (by decide) ?_
                  refine m_cneN (tgt := 266) hx hb (by omega) (by omega) dL_law_259 (by decide) (fun c_259 => ?_) (fun c_259 => ?_)
                  · refine lv_iconst (v := nI 0) hx hb dL_law_266 (by decide) ?_
                    refine m_top (show nI 0 = bI nw9 from by rw [hnw, decide_eq_false c_259] <;> rfl) ?_
                    exact K H locs hI
                  · refine lv_iconst (v := nI 1) hx hb dL_law_262 (by decide) ?_
                    refine lv_goto (tgt := 267) hx hb dL_law_263 (by decide) ?_
                    refine m_top (show nI 1 = bI nw9 from by rw [hnw, decide_eq_true c_259] <;> rfl) ?_
                    exact K H locs hI
                refine lv_istore (lv' := [(13, .int (bI nw9)), (12, .int (nI ch9)), (11, .int (nI t9)), (10, .int (nI fst9)), (9, .int (nI t9)), (8, .int (nI co9)), (7, .ref aW), (6, .int (nI lst)), (5, .int (nI u)), (4, .int x9), (0, .ref b), (1, .ref ap), (2, .ref aS), (3, .int (nI t))]) hx hb dL_law_267 hl (by decide) rfl (fun ls hl => ?_)
                obtain ⟨lb9, hlb⟩ : ∃ zz, zz = (decide (0 < ch9) && !nw9 && decide (lst = 40)) := ⟨_, rfl⟩
                refine m_via hI 291 ([.int (bI lb9)]) (fun K => ?_) (fun H locs hI => ?_)
                · refine lv_iload hx hb dL_law_269 (lv_at hl 1 rfl) ?_
                  refine m_zleN (tgt := 290) hx hb (by omega) dL_law_271 (by decide) (fun c_271 => ?_) (fun c_271 => ?_)
                  · refine lv_iconst (v := nI 0) hx hb dL_law_290 (by decide) ?_
                    refine m_top (show nI 0 = bI lb9 from by rw [hlb, show decide (0 < ch9) = false from decide_eq_false (by omega)] <;> rfl) ?_
                    exact K H locs hI
                  · refine lv_iload hx hb dL_law_274 (lv_at hl 0 rfl) ?_
                    refine m_zneB (tgt := 290) hx hb dL_law_276 (by decide) (fun c_276 => ?_) (fun c_276 => ?_)
                    · refine lv_iconst (v := nI 0) hx hb dL_law_290 (by decide) ?_
                      refine m_top (show nI 0 = bI lb9 from by rw [hlb, show decide (0 < ch9) = true from decide_eq_true (by omega), c_276] <;> (try rfl)) ?_
                      exact K H locs hI
                    · refine lv_iload hx hb dL_law_279 (lv_at hl 7 rfl) ?_
                      refine lv_bipush (v := nI 40) hx hb dL_law_281 (by decide) ?_
                      refine m_cneN (tgt := 290) hx hb (by omega) (by omega) dL_law_283 (by decide) (fun c_283 => ?_) (fun c_283 => ?_)
                      · refine lv_iconst (v := nI 0) hx hb dL_law_290 (by decide) ?_
                        refine m_top (show nI 0 = bI lb9 from by rw [hlb, show decide (0 < ch9) = true from decide_eq_true (by omega), c_276, show decide (lst = 40) = false from decide_eq_false (by omega)] <;> rfl) ?_
                        exact K H locs hI
                      · refine lv_iconst (v := nI 1) hx hb dL_law_286 (by decide) ?_
                        refine lv_goto (tgt := 291) hx hb dL_law_287 (by decide) ?_
                        refine m_top (show nI 1 = bI lb9 from by rw [hlb, show decide (0 < ch9) = true from decide_eq_true (by omega), c_276, show decide (lst = 40) = true from decide_eq_true (by omega)] <;> rfl) ?_
                        exact K H locs hI
                refine lv_istore (lv' := [(14, .int (bI lb9)), (13, .int (bI nw9)), (12, .int (nI ch9)), (11, .int (nI t9)), (10, .int (nI fst9)), (9, .int (nI t9)), (8, .int (nI co9)), (7, .ref aW), (6, .int (nI lst)), (5, .int (nI u)), (4, .int x9), (0, .ref b), (1, .ref ap), (2, .ref aS), (3, .int (nI t))]) hx hb dL_law_291 hl (by decide) rfl (fun ls hl => ?_)
                obtain ⟨sb9, hsb⟩ : ∃ zz, zz = (decide (0 < ch9) && !nw9 && decide (lst < 40)) := ⟨_, rfl⟩
                refine m_via hI 315 ([.int (bI sb9)]) (fun K => ?_) (fun H locs hI => ?_)
                · refine lv_iload hx hb dL_law_293 (lv_at hl 2 rfl) ?_
                  refine m_zleN (tgt := 314) hx hb (by omega) dL_law_295 (by decide) (fun c_295 => ?_) (fun c_295 => ?_)
                  · refine lv_iconst (v := nI 0) hx hb dL_law_314 (by decide) ?_
                    refine m_top (show nI 0 = bI sb9 from by rw [hsb, show decide (0 < ch9) = false from decide_eq_false (by omega)] <;> rfl) ?_
                    exact K H locs hI
                  · refine lv_iload hx hb dL_law_298 (lv_at hl 1 rfl) ?_
                    refine m_zneB (tgt := 314) hx hb dL_law_300 (by decide) (fun c_300 => ?_) (fun c_300 => ?_)
                    · refine lv_iconst (v := nI 0) hx hb dL_law_314 (by decide) ?_
                      refine m_top (show nI 0 = bI sb9 from by rw [hsb, show decide (0 < ch9) = true from decide_eq_true (by omega), c_300] <;> (try rfl)) ?_
                      exact K H locs hI
                    · refine lv_iload hx hb dL_law_303 (lv_at hl 8 rfl) ?_
                      refine lv_bipush (v := nI 40) hx hb dL_law_305 (by decide) ?_
                      refine m_cgeN (tgt := 314) hx hb (by omega) (by omega) dL_law_307 (by decide) (fun c_307 => ?_) (fun c_307 => ?_)
                      · refine lv_iconst (v := nI 0) hx hb dL_law_314 (by decide) ?_
                        refine m_top (show nI 0 = bI sb9 from by rw [hsb, show decide (0 < ch9) = true from decide_eq_true (by omega), c_300, show decide (lst < 40) = false from decide_eq_false (by omega)] <;> rfl) ?_
                        exact K H locs hI
                      · refine lv_iconst (v := nI 1) hx hb dL_law_310 (by decide) ?_
                        refine lv_goto (tgt := 315) hx hb dL_law_311 (by decide) ?_
                        refine m_top (show nI 1 = bI sb9 from by rw [hsb, show decide (0 < ch9) = true from decide_eq_true (by omega), c_300, show decide (lst < 40) = true from decide_eq_true (by omega)] <;> rfl) ?_
                        exact K H locs hI
                refine lv_istore (lv' := [(15, .int (bI sb9)), (14, .int (bI lb9)), (13, .int (bI nw9)), (12, .int (nI ch9)), (11, .int (nI t9)), (10, .int (nI fst9)), (9, .int (nI t9)), (8, .int (nI co9)), (7, .ref aW), (6, .int (nI lst)), (5, .int (nI u)), (4, .int x9), (0, .ref b), (1, .ref ap), (2, .ref aS), (3, .int (nI t))]) hx hb dL_law_315 hl (by decide) rfl (fun ls hl => ?_)
                have hlb2 : lb9 = (decide (0 < ch9) && !nw9 && decide (z (slt fi (u - 1)) = 40)) := by rw [hlb, hlst]
                have hsb2 : sb9 = (decide (0 < ch9) && !nw9 && decide (z (slt fi (u - 1)) < 40)) := by rw [hsb, hlst]
                have q3 : loC = lost + nI (if lb9 = true then 1 else 0) := q3.trans (lost_facts hnw hlb2)
                obtain ⟨p1, p2, p3, p4, p5⟩ := page_facts hwf0 hz40 q6 hnw hsb2
                rw [← hlst] at p2 p4
                rw [← hfst] at p3
                have q4 : beC = bel + nI (if t9 = 8 then 1 else 0) := q4.trans (mis_if2 _ _)
                have huC : uC ≤ 20 := hwf.2.2
                have hsuz : sumz z fi u ≤ 800 := by rw [PgS_sum e6 u (Nat.le_refl _)]; have h1 := sumL_le (ln := ln) hwv.2.2 u (Nat.le_refl _); omega
                have hsuzC : sumz zC fiC uC ≤ 801 := by have h1 : (if sb9 = true then 1 else 0) ≤ 1 := (by split <;> omega); omega
                have hpz : zC (slt fiC (uC - 1)) ≤ 41 := by rw [p2]; (repeat' split) <;> omega
                refine lv_aload_n hx hb dL_law_317 rfl (lv_at hl 13 rfl) ?_
                refine lv_iconst (v := nI 0) hx hb dL_law_318 (by decide) ?_
                refine m_stk (show ([.int (nI 0), .ref ap] : List Value) = [.int (nI 0), .ref (ad3 0)] from by rw [hap]) ?_
                refine m_callVn (As := [.int (nI 0)]) (rest := []) (c1 := c0 + 508) (s1 := s0 + 8619) ⟨hx, hb, hml, hown, hts⟩ hE hI (c_X3_count k l hst ad3 N3 g27 _ uns play rd n lat gar T caC miC loC beC fgC fiC uC zC FC r (nI 0) (by omega) hW hwf (by omega) hC) (fun E h => absurd (inN_nI (n := 11) (show 0 < 11 by omega) (by omega)) (by rw [h.2]; decide)) (cwV 1 hts gL_law_X3_count rfl rfl rfl (by decide +kernel) ⟨Nat.le_of_ble_eq_true rfl, Nat.le_of_ble_eq_true rfl⟩) (i := 0) (by omega) hC.1 rfl rfl hl.1 rfl (Nat.le_of_ble_eq_true rfl) dL_law_319 (by omega) (by omega) ⟨(by show _ ≤ 600130; omega), (by show _ ≤ 7301080; omega)⟩ (fun r9 g9 H locs hp hI => ?_)
                obtain ⟨_, hr9, hg9⟩ := hp
                rw [hg9] at hI
                rw [tn_nI (j := 0) (by omega)] at hr9
                refine m_top hr9 ?_
                refine m_top (show cntV uC (sumz zC fiC uC) fgC play n rd caC miC loC uns beC 0 = nI uC from rfl) ?_
                have hmn : (if nw9 = true then min 20 (u + 1) else u) ≤ 21 := by split <;> omega
                refine m_via hI 341 ([.int (nI (if nw9 = true then min 20 (u + 1) else u)), .int (nI uC)]) (fun K => ?_) (fun H locs hI => ?_)
                · refine lv_iload hx hb dL_law_322 (lv_at hl 2 rfl) ?_
                  refine m_zeqB (tgt := 339) hx hb dL_law_324 (by decide) (fun c_324 => ?_) (fun c_324 => ?_)
                  · refine lv_iload hx hb dL_law_339 (lv_at hl 10 rfl) ?_
                    refine m_top (show nI u = nI (if nw9 = true then min 20 (u + 1) else u) from by rw [if_neg (by rw [c_324]; decide)]) ?_
                    exact K H locs hI
                  · refine lv_bipush (v := nI 20) hx hb dL_law_327 (by decide) ?_
                    refine lv_iload hx hb dL_law_329 (lv_at hl 10 rfl) ?_
                    refine lv_iconst (v := nI 1) hx hb dL_law_331 (by decide) ?_
                    refine m_iaddN hx hb dL_law_332 ?_
                    refine va_mmin hx hb (hml.trans hl.1.symm) hown (hts (.methodLink RL 116 Lib.Math.min.name) (by decide +kernel)) (hts (.static Lib.Math.min.name) (by decide +kernel)) (hts (.initialized "java/lang/Math") (by decide +kernel)) (hts (.code Lib.Math.min.name Lib.Math.min.code 2 (some .int)) (by decide +kernel)) (Nat.le_of_ble_eq_true rfl) (Nat.le_of_ble_eq_true rfl) (by show c0 + _ ≤ 600130; omega) (by show s0 + _ ≤ 7301080; omega) dL_law_333 ?_
                    refine m_top (min_nI (a := 20) (b := u + 1) (by omega) (by omega)) ?_
                    refine lv_goto (tgt := 341) hx hb dL_law_336 (by decide) ?_
                    refine m_top (show nI (min 20 (u + 1)) = nI (if nw9 = true then min 20 (u + 1) else u) from by rw [if_pos c_324]) ?_
                    exact K H locs hI
                refine m_cneN (tgt := 396) hx hb (by omega) (by omega) dL_law_341 (by decide) (fun c_341 => ?_) (fun c_341 => ?_)
                · exact absurd p1 c_341
                · refine lv_aload_n hx hb dL_law_344 rfl (lv_at hl 13 rfl) ?_
                  refine lv_bipush (v := nI 8) hx hb dL_law_345 (by decide) ?_
                  refine m_stk (show ([.int (nI 8), .ref ap] : List Value) = [.int (nI 8), .ref (ad3 0)] from by rw [hap]) ?_
                  refine m_callVn (As := [.int (nI 8)]) (rest := []) (c1 := c0 + 509) (s1 := s0 + 8625) ⟨hx, hb, hml, hown, hts⟩ hE hI (c_X3_count k l hst ad3 N3 g27 _ uns play rd n lat gar T caC miC loC beC fgC fiC uC zC FC r (nI 8) (by omega) hW hwf (by omega) hC) (fun E h => absurd (inN_nI (n := 11) (show 8 < 11 by omega) (by omega)) (by rw [h.2]; decide)) (cwV 1 hts gL_law_X3_count rfl rfl rfl (by decide +kernel) ⟨Nat.le_of_ble_eq_true rfl, Nat.le_of_ble_eq_true rfl⟩) (i := 0) (by omega) hC.1 rfl rfl hl.1 rfl (Nat.le_of_ble_eq_true rfl) dL_law_347 (by omega) (by omega) ⟨(by show _ ≤ 600130; omega), (by show _ ≤ 7301080; omega)⟩ (fun r9 g9 H locs hp hI => ?_)
                  obtain ⟨_, hr9, hg9⟩ := hp
                  rw [hg9] at hI
                  rw [tn_nI (j := 8) (by omega)] at hr9
                  refine m_top hr9 ?_
                  refine m_top (show cntV uC (sumz zC fiC uC) fgC play n rd caC miC loC uns beC 8 = loC from rfl) ?_
                  refine lv_aload hx hb dL_law_350 (lv_at hl 8 rfl) ?_
                  refine lv_bipush (v := nI 8) hx hb dL_law_352 (by decide) ?_
                  refine m_stk (show ([.int (nI 8), .ref aW, .int loC] : List Value) = [.int (nI 8), .ref (ad3 57), .int loC] from by rw [haW]) ?_
                  refine m_iald hx hb hE hI 57 (by omega) (j := 8) hw57 (by omega) (by omega) dL_law_354 ?_
                  refine m_top (show (cntV u (sumz z fi u) fig play n rd came mis lost uns bel) 8 = lost from rfl) ?_
                  refine m_via hI 365 ([.int (nI (if lb9 = true then 1 else 0)), .int lost, .int loC]) (fun K => ?_) (fun H locs hI => ?_)
                  · refine lv_iload hx hb dL_law_355 (lv_at hl 1 rfl) ?_
                    refine m_zeqB (tgt := 364) hx hb dL_law_357 (by decide) (fun c_357 => ?_) (fun c_357 => ?_)
                    · refine lv_iconst (v := nI 0) hx hb dL_law_364 (by decide) ?_
                      refine m_top (show nI 0 = nI (if lb9 = true then 1 else 0) from by rw [if_neg (by rw [c_357]; decide)]) ?_
                      exact K H locs hI
                    · refine lv_iconst (v := nI 1) hx hb dL_law_360 (by decide) ?_
                      refine lv_goto (tgt := 365) hx hb dL_law_361 (by decide) ?_
                      refine m_top (show nI 1 = nI (if lb9 = true then 1 else 0) from by rw [if_pos c_357]) ?_
                      exact K H locs hI
                  refine lv_iadd hx hb dL_law_365 ?_
                  refine lv_icmp_ne (tgt := 396) hx hb dL_law_366 (by decide) (fun c_366 => ?_) (fun c_366 => ?_)
                  · exact absurd q3 c_366
                  · refine lv_aload_n hx hb dL_law_369 rfl (lv_at hl 13 rfl) ?_
                    refine lv_bipush (v := nI 10) hx hb dL_law_370 (by decide) ?_
                    refine m_stk (show ([.int (nI 10), .ref ap] : List Value) = [.int (nI 10), .ref (ad3 0)] from by rw [hap]) ?_
                    refine m_callVn (As := [.int (nI 10)]) (rest := []) (c1 := c0 + 510) (s1 := s0 + 8631) ⟨hx, hb, hml, hown, hts⟩ hE hI (c_X3_count k l hst ad3 N3 g27 _ uns play rd n lat gar T caC miC loC beC fgC fiC uC zC FC r (nI 10) (by omega) hW hwf (by omega) hC) (fun E h => absurd (inN_nI (n := 11) (show 10 < 11 by omega) (by omega)) (by rw [h.2]; decide)) (cwV 1 hts gL_law_X3_count rfl rfl rfl (by decide +kernel) ⟨Nat.le_of_ble_eq_true rfl, Nat.le_of_ble_eq_true rfl⟩) (i := 0) (by omega) hC.1 rfl rfl hl.1 rfl (Nat.le_of_ble_eq_true rfl) dL_law_372 (by omega) (by omega) ⟨(by show _ ≤ 600130; omega), (by show _ ≤ 7301080; omega)⟩ (fun r9 g9 H locs hp hI => ?_)
                    obtain ⟨_, hr9, hg9⟩ := hp
                    rw [hg9] at hI
                    rw [tn_nI (j := 10) (by omega)] at hr9
                    refine m_top hr9 ?_
                    refine m_top (show cntV uC (sumz zC fiC uC) fgC play n rd caC miC loC uns beC 10 = beC from rfl) ?_
                    refine lv_aload hx hb dL_law_375 (lv_at hl 8 rfl) ?_
                    refine lv_bipush (v := nI 10) hx hb dL_law_377 (by decide) ?_
                    refine m_stk (show ([.int (nI 10), .ref aW, .int beC] : List Value) = [.int (nI 10), .ref (ad3 57), .int beC] from by rw [haW]) ?_
                    refine m_iald hx hb hE hI 57 (by omega) (j := 10) hw57 (by omega) (by omega) dL_law_379 ?_
                    refine m_top (show (cntV u (sumz z fi u) fig play n rd came mis lost uns bel) 10 = bel from rfl) ?_
                    refine m_via hI 392 ([.int (nI (if t9 = 8 then 1 else 0)), .int bel, .int beC]) (fun K => ?_) (fun H locs hI => ?_)
                    · refine lv_iload hx hb dL_law_380 (lv_at hl 4 rfl) ?_
                      refine lv_bipush (v := nI 8) hx hb dL_law_382 (by decide) ?_
                      refine m_cneN (tgt := 391) hx hb (by omega) (by omega) dL_law_384 (by decide) (fun c_384 => ?_) (fun c_384 => ?_)
                      · refine lv_iconst (v := nI 0) hx hb dL_law_391 (by decide) ?_
                        refine m_top (show nI 0 = nI (if t9 = 8 then 1 else 0) from by rw [if_neg c_384]) ?_
                        exact K H locs hI
                      · refine lv_iconst (v := nI 1) hx hb dL_law_387 (by decide) ?_
                        refine lv_goto (tgt := 392) hx hb dL_law_388 (by decide) ?_
                        refine m_top (show nI 1 = nI (if t9 = 8 then 1 else 0) from by rw [if_pos c_384]) ?_
                        exact K H locs hI
                    refine lv_iadd hx hb dL_law_392 ?_
                    refine lv_icmp_eq (tgt := 398) hx hb dL_law_393 (by decide) (fun c_393 => ?_) (fun c_393 => ?_)
                    · refine lv_aload_n hx hb dL_law_398 rfl (lv_at hl 13 rfl) ?_
                      refine lv_iconst (v := nI 1) hx hb dL_law_399 (by decide) ?_
                      refine m_stk (show ([.int (nI 1), .ref ap] : List Value) = [.int (nI 1), .ref (ad3 0)] from by rw [hap]) ?_
                      refine m_callVn (As := [.int (nI 1)]) (rest := []) (c1 := c0 + 511) (s1 := s0 + 8637) ⟨hx, hb, hml, hown, hts⟩ hE hI (c_X3_count k l hst ad3 N3 g27 _ uns play rd n lat gar T caC miC loC beC fgC fiC uC zC FC r (nI 1) (by omega) hW hwf (by omega) hC) (fun E h => absurd (inN_nI (n := 11) (show 1 < 11 by omega) (by omega)) (by rw [h.2]; decide)) (cwV 1 hts gL_law_X3_count rfl rfl rfl (by decide +kernel) ⟨Nat.le_of_ble_eq_true rfl, Nat.le_of_ble_eq_true rfl⟩) (i := 0) (by omega) hC.1 rfl rfl hl.1 rfl (Nat.le_of_ble_eq_true rfl) dL_law_400 (by omega) (by omega) ⟨(by show _ ≤ 600130; omega), (by show _ ≤ 7301080; omega)⟩ (fun r9 g9 H locs hp hI => ?_)
                      obtain ⟨_, hr9, hg9⟩ := hp
                      rw [hg9] at hI
                      rw [tn_nI (j := 1) (by omega)] at hr9
                      refine m_top hr9 ?_
                      refine m_top (show cntV uC (sumz zC fiC uC) fgC play n rd caC miC loC uns beC 1 = nI (sumz zC fiC uC) from rfl) ?_
                      refine lv_aload hx hb dL_law_403 (lv_at hl 8 rfl) ?_
                      refine lv_iconst (v := nI 1) hx hb dL_law_405 (by decide) ?_
                      refine m_stk (show ([.int (nI 1), .ref aW, .int (nI (sumz zC fiC uC))] : List Value) = [.int (nI 1), .ref (ad3 57), .int (nI (sumz zC fiC uC))] from by rw [haW]) ?_
                      refine m_iald hx hb hE hI 57 (by omega) (j := 1) hw57 (by omega) (by omega) dL_law_406 ?_
                      refine m_top (show (cntV u (sumz z fi u) fig play n rd came mis lost uns bel) 1 = nI (sumz z fi u) from rfl) ?_
                      refine m_via hI 417 ([.int (nI (if sb9 = true then 1 else 0)), .int (nI (sumz z fi u)), .int (nI (sumz zC fiC uC))]) (fun K => ?_) (fun H locs hI => ?_)
                      · refine lv_iload hx hb dL_law_407 (lv_at hl 0 rfl) ?_
                        refine m_zeqB (tgt := 416) hx hb dL_law_409 (by decide) (fun c_409 => ?_) (fun c_409 => ?_)
                        · refine lv_iconst (v := nI 0) hx hb dL_law_416 (by decide) ?_
                          refine m_top (show nI 0 = nI (if sb9 = true then 1 else 0) from by rw [if_neg (by rw [c_409]; decide)]) ?_
                          exact K H locs hI
                        · refine lv_iconst (v := nI 1) hx hb dL_law_412 (by decide) ?_
                          refine lv_goto (tgt := 417) hx hb dL_law_413 (by decide) ?_
                          refine m_top (show nI 1 = nI (if sb9 = true then 1 else 0) from by rw [if_pos c_409]) ?_
                          exact K H locs hI
                      refine m_iaddN hx hb dL_law_417 ?_
                      have hi1 : (if sb9 = true then 1 else 0) ≤ 1 := by split <;> omega
                      have hi2 : (if nw9 = true ∧ u = 20 then fst9 else 0) ≤ 40 := by split <;> omega
                      refine m_via hI 436 ([.int (nI (if nw9 = true ∧ u = 20 then fst9 else 0)), .int (nI ((sumz z fi u) + (if sb9 = true then 1 else 0))), .int (nI (sumz zC fiC uC))]) (fun K => ?_) (fun H locs hI => ?_)
                      · refine lv_iload hx hb dL_law_418 (lv_at hl 2 rfl) ?_
                        refine m_zeqB (tgt := 435) hx hb dL_law_420 (by decide) (fun c_420 => ?_) (fun c_420 => ?_)
                        · refine lv_iconst (v := nI 0) hx hb dL_law_435 (by decide) ?_
                          refine m_top (show nI 0 = nI (if nw9 = true ∧ u = 20 then fst9 else 0) from by rw [if_neg (fun h9 => by rw [c_420] at h9; cases h9.1)]) ?_
                          exact K H locs hI
                        · refine lv_iload hx hb dL_law_423 (lv_at hl 10 rfl) ?_
                          refine lv_bipush (v := nI 20) hx hb dL_law_425 (by decide) ?_
                          refine m_cneN (tgt := 435) hx hb (by omega) (by omega) dL_law_427 (by decide) (fun c_427 => ?_) (fun c_427 => ?_)
                          · refine lv_iconst (v := nI 0) hx hb dL_law_435 (by decide) ?_
                            refine m_top (show nI 0 = nI (if nw9 = true ∧ u = 20 then fst9 else 0) from by rw [if_neg (fun h9 => c_427 h9.2)]) ?_
                            exact K H locs hI
                          · refine lv_iload hx hb dL_law_430 (lv_at hl 5 rfl) ?_
                            refine lv_goto (tgt := 436) hx hb dL_law_432 (by decide) ?_
                            refine m_top (show nI fst9 = nI (if nw9 = true ∧ u = 20 then fst9 else 0) from by rw [if_pos ⟨c_420, c_427⟩]) ?_
                            exact K H locs hI
                      refine m_isubN hx hb (by omega) dL_law_436 ?_
                      refine m_ceqN (tgt := 442) hx hb (by omega) (by omega) dL_law_437 (by decide) (fun c_437 => ?_) (fun c_437 => ?_)
                      · refine lv_aload_n hx hb dL_law_442 rfl (lv_at hl 13 rfl) ?_
                        refine lv_aload_n hx hb dL_law_443 rfl (lv_at hl 13 rfl) ?_
                        refine lv_iconst (v := nI 0) hx hb dL_law_444 (by decide) ?_
                        refine m_stk (show ([.int (nI 0), .ref ap, .ref ap] : List Value) = [.int (nI 0), .ref (ad3 0), .ref ap] from by rw [hap]) ?_
                        refine m_callVn (As := [.int (nI 0)]) (rest := [.ref ap]) (c1 := c0 + 512) (s1 := s0 + 8643) ⟨hx, hb, hml, hown, hts⟩ hE hI (c_X3_count k l hst ad3 N3 g27 _ uns play rd n lat gar T caC miC loC beC fgC fiC uC zC FC r (nI 0) (by omega) hW hwf (by omega) hC) (fun E h => absurd (inN_nI (n := 11) (show 0 < 11 by omega) (by omega)) (by rw [h.2]; decide)) (cwV 1 hts gL_law_X3_count rfl rfl rfl (by decide +kernel) ⟨Nat.le_of_ble_eq_true rfl, Nat.le_of_ble_eq_true rfl⟩) (i := 0) (by omega) hC.1 rfl rfl hl.1 rfl (Nat.le_of_ble_eq_true rfl) dL_law_445 (by omega) (by omega) ⟨(by show _ ≤ 600130; omega), (by show _ ≤ 7301080; omega)⟩ (fun r9 g9 H locs hp hI => ?_)
                        obtain ⟨_, hr9, hg9⟩ := hp
                        rw [hg9] at hI
                        rw [tn_nI (j := 0) (by omega)] at hr9
                        refine m_top hr9 ?_
                        refine m_top (show cntV uC (sumz zC fiC uC) fgC play n rd caC miC loC uns beC 0 = nI uC from rfl) ?_
                        refine lv_iconst (v := nI 1) hx hb dL_law_448 (by decide) ?_
                        refine m_isubN hx hb (by omega) dL_law_449 ?_
                        refine m_stk (show ([.int (nI (uC - 1)), .ref ap] : List Value) = [.int (nI (uC - 1)), .ref (ad3 0)] from by rw [hap]) ?_
                        refine m_callVn (As := [.int (nI (uC - 1))]) (rest := []) (c1 := c0 + 513) (s1 := s0 + 8649) ⟨hx, hb, hml, hown, hts⟩ hE hI (c_X3_length k l hst ad3 N3 g27 _ uns play rd n lat gar T caC miC loC beC fgC fiC uC zC FC r (nI (uC - 1)) (by omega) hW hwf (by omega) hC) (fun E h => absurd (inN_nI (show uC - 1 < uC by omega) (by omega)) (by rw [h.2]; decide)) (cwV 1 hts gL_law_X3_length rfl rfl rfl (by decide +kernel) ⟨Nat.le_of_ble_eq_true rfl, Nat.le_of_ble_eq_true rfl⟩) (i := 0) (by omega) hC.1 rfl rfl hl.1 rfl (Nat.le_of_ble_eq_true rfl) dL_law_450 (by omega) (by omega) ⟨(by show _ ≤ 600130; omega), (by show _ ≤ 7301080; omega)⟩ (fun r9 g9 H locs hp hI => ?_)
                        obtain ⟨_, hr9, hg9⟩ := hp
                        rw [hg9] at hI
                        rw [tn_nI (j := uC - 1) (by omega)] at hr9
                        refine m_top hr9 ?_
                        have hv4 : (if nw9 = true then 0 else if sb9 = true then lst + 1 else lst) ≤ 41 := by (repeat' split) <;> omega
                        refine m_via hI 476 ([.int (nI (if nw9 = true then 0 else if sb9 = true then lst + 1 else lst)), .int (nI (zC (slt fiC (uC - 1))))]) (fun K => ?_) (fun H locs hI => ?_)
                        · refine lv_iload hx hb dL_law_453 (lv_at hl 2 rfl) ?_
                          refine m_zeqB (tgt := 462) hx hb dL_law_455 (by decide) (fun c_455 => ?_) (fun c_455 => ?_)
                          · refine lv_iload hx hb dL_law_462 (lv_at hl 0 rfl) ?_
                            refine m_zeqB (tgt := 474) hx hb dL_law_464 (by decide) (fun c_464 => ?_) (fun c_464 => ?_)
                            · refine lv_iload hx hb dL_law_474 (lv_at hl 9 rfl) ?_
                              refine m_top (show nI lst = nI (if nw9 = true then 0 else if sb9 = true then lst + 1 else lst) from by rw [if_neg (by rw [c_455]; decide), if_neg (by rw [c_464]; decide)]) ?_
                              exact K H locs hI
                            · refine lv_iload hx hb dL_law_467 (lv_at hl 9 rfl) ?_
                              refine lv_iconst (v := nI 1) hx hb dL_law_469 (by decide) ?_
                              refine m_iaddN hx hb dL_law_470 ?_
                              refine lv_goto (tgt := 476) hx hb dL_law_471 (by decide) ?_
                              refine m_top (show nI (lst + 1) = nI (if nw9 = true then 0 else if sb9 = true then lst + 1 else lst) from by rw [if_neg (by rw [c_455]; decide), if_pos c_464]) ?_
                              exact K H locs hI
                          · refine lv_iconst (v := nI 0) hx hb dL_law_458 (by decide) ?_
                            refine lv_goto (tgt := 476) hx hb dL_law_459 (by decide) ?_
                            refine m_top (show nI 0 = nI (if nw9 = true then 0 else if sb9 = true then lst + 1 else lst) from by rw [if_pos c_455]) ?_
                            exact K H locs hI
                        refine m_cneN (tgt := 499) hx hb (by omega) (by omega) dL_law_476 (by decide) (fun c_476 => ?_) (fun c_476 => ?_)
                        · exact absurd p2 c_476
                        · refine m_viaC hI (c0 + 513 + 1) (s0 + 8649 + 6) 501 [] (fun K9 => ?_) (fun H locs hI => ?_)
                          · refine lv_iload hx hb dL_law_479 (lv_at hl 0 rfl) ?_
                            refine m_zeqB (tgt := 501) hx hb dL_law_481 (by decide) (fun c_481 => ?_) (fun c_481 => ?_)
                            · refine W.widen (k := c0 + 513 + 1) (n := s0 + 8649 + 6) (by omega) (by omega) ?_
                              exact K9 H locs hI
                            · obtain ⟨r1, r2, r3⟩ := p4 c_481
                              have hnw0 : nw9 = false := by cases h9 : nw9 with | false => rfl | true => (rw [h9, c_481, Bool.not_true, Bool.and_false, Bool.false_and] at hsb; cases hsb)
                              have p2b : zC (slt fiC (u - 1)) = lst + 1 := by rw [← r1, p2, hnw0, c_481]; rfl
                              refine lv_aload_n hx hb dL_law_484 rfl (lv_at hl 13 rfl) ?_
                              refine lv_iload hx hb dL_law_485 (lv_at hl 10 rfl) ?_
                              refine lv_iconst (v := nI 1) hx hb dL_law_487 (by decide) ?_
                              refine m_isubN hx hb (by omega) dL_law_488 ?_
                              refine lv_iload hx hb dL_law_489 (lv_at hl 9 rfl) ?_
                              refine m_stk (show ([.int (nI lst), .int (nI (u - 1)), .ref ap] : List Value) = [.int (nI lst), .int (nI (u - 1)), .ref (ad3 0)] from by rw [hap]) ?_
                              refine m_callVn (As := [.int (nI (u - 1)), .int (nI lst)]) (rest := []) (c1 := c0 + 514) (s1 := s0 + 8655) ⟨hx, hb, hml, hown, hts⟩ hE hI (c_X3_page k l hst ad3 N3 g27 _ uns play rd n lat gar T caC miC loC beC fgC fiC uC zC FC r (nI (u - 1)) (nI lst) (by omega) hW hwf (by omega) hC) (fun E h => absurd (show (inN (nI (u - 1)) uC && inN (nI lst) (zC (slt fiC (tn (nI (u - 1)))))) = true by rw [tn_nI (j := u - 1) (by omega), inN_nI (show u - 1 < uC by omega) (by omega), inN_nI (by omega) (by omega)]; rfl) (by rw [h.2]; decide)) (cwV 2 hts gL_law_X3_page rfl rfl rfl (by decide +kernel) ⟨Nat.le_of_ble_eq_true rfl, Nat.le_of_ble_eq_true rfl⟩) (i := 0) (by omega) hC.1 rfl rfl hl.1 rfl (Nat.le_of_ble_eq_true rfl) dL_law_491 (by omega) (by omega) ⟨(by show _ ≤ 600130; omega), (by show _ ≤ 7301080; omega)⟩ (fun r9 g9 H locs hp hI => ?_)
                              obtain ⟨_, hr9, hg9⟩ := hp
                              rw [hg9] at hI
                              rw [tn_nI (j := u - 1) (by omega), tn_nI (j := lst) (by omega)] at hr9
                              refine m_top hr9 ?_
                              refine lv_iload hx hb dL_law_494 (lv_at hl 3 rfl) ?_
                              refine lv_icmp_eq (tgt := 501) hx hb dL_law_496 (by decide) (fun c_496 => ?_) (fun c_496 => ?_)
                              · refine W.widen (k := c0 + 513 + 1) (n := s0 + 8649 + 6) (by omega) (by omega) ?_
                                exact K9 H locs hI
                              · exact absurd (by rw [r2, r3]) c_496
                          refine m_via hI 548 ([.int (bI (fb uns t9 fig))]) (fun K => ?_) (fun H locs hI => ?_)
                          · refine lv_iload hx hb dL_law_501 (lv_at hl 4 rfl) ?_
                            refine lv_bipush (v := nI 27) hx hb dL_law_503 (by decide) ?_
                            refine m_cneN (tgt := 512) hx hb (by omega) (by omega) dL_law_505 (by decide) (fun c_505 => ?_) (fun c_505 => ?_)
                            · refine lv_iload hx hb dL_law_512 (lv_at hl 4 rfl) ?_
                              refine lv_bipush (v := nI 31) hx hb dL_law_514 (by decide) ?_
                              refine m_ceqN (tgt := 540) hx hb (by omega) (by omega) dL_law_516 (by decide) (fun c_516 => ?_) (fun c_516 => ?_)
                              · refine lv_iconst (v := nI 0) hx hb dL_law_540 (by decide) ?_
                                refine lv_goto (tgt := 548) hx hb dL_law_541 (by decide) ?_
                                refine m_top (show nI 0 = bI (fb uns t9 fig) from by rw [show fb uns t9 fig = false from by first | (simp [fb, stl, *]; done) | (simp_all [fb, stl]; done)] <;> rfl) ?_
                                exact K H locs hI
                              · refine lv_iload hx hb dL_law_519 (lv_at hl 4 rfl) ?_
                                refine lv_iconst (v := nI 2) hx hb dL_law_521 (by decide) ?_
                                refine m_ceqN (tgt := 540) hx hb (by omega) (by omega) dL_law_522 (by decide) (fun c_522 => ?_) (fun c_522 => ?_)
                                · refine lv_iconst (v := nI 0) hx hb dL_law_540 (by decide) ?_
                                  refine lv_goto (tgt := 548) hx hb dL_law_541 (by decide) ?_
                                  refine m_top (show nI 0 = bI (fb uns t9 fig) from by rw [show fb uns t9 fig = false from by first | (simp [fb, stl, *]; done) | (simp_all [fb, stl]; done)] <;> rfl) ?_
                                  exact K H locs hI
                                · refine lv_iload hx hb dL_law_525 (lv_at hl 4 rfl) ?_
                                  refine lv_iconst (v := nI 4) hx hb dL_law_527 (by decide) ?_
                                  refine m_cneN (tgt := 544) hx hb (by omega) (by omega) dL_law_528 (by decide) (fun c_528 => ?_) (fun c_528 => ?_)
                                  · refine lv_aload hx hb dL_law_544 (lv_at hl 8 rfl) ?_
                                    refine lv_iconst (v := nI 2) hx hb dL_law_546 (by decide) ?_
                                    refine m_stk (show ([.int (nI 2), .ref aW] : List Value) = [.int (nI 2), .ref (ad3 57)] from by rw [haW]) ?_
                                    refine m_iald hx hb hE hI 57 (by omega) (j := 2) hw57 (by omega) (by omega) dL_law_547 ?_
                                    refine m_top (show (cntV u (sumz z fi u) fig play n rd came mis lost uns bel) 2 = bI (fb uns t9 fig) from by rw [show fb uns t9 fig = fig from by first | (simp [fb, stl, *]; done) | (simp_all [fb, stl]; done)] <;> rfl) ?_
                                    exact K H locs hI
                                  · refine lv_aload hx hb dL_law_531 (lv_at hl 8 rfl) ?_
                                    refine lv_bipush (v := nI 9) hx hb dL_law_533 (by decide) ?_
                                    refine m_stk (show ([.int (nI 9), .ref aW] : List Value) = [.int (nI 9), .ref (ad3 57)] from by rw [haW]) ?_
                                    refine m_iald hx hb hE hI 57 (by omega) (j := 9) hw57 (by omega) (by omega) dL_law_535 ?_
                                    refine m_top (show (cntV u (sumz z fi u) fig play n rd came mis lost uns bel) 9 = bI uns from rfl) ?_
                                    refine lv_iconst (v := nI 1) hx hb dL_law_536 (by decide) ?_
                                    refine lv_icmp_ne (tgt := 544) hx hb dL_law_537 (by decide) (fun c_537 => ?_) (fun c_537 => ?_)
                                    · refine lv_aload hx hb dL_law_544 (lv_at hl 8 rfl) ?_
                                      refine lv_iconst (v := nI 2) hx hb dL_law_546 (by decide) ?_
                                      refine m_stk (show ([.int (nI 2), .ref aW] : List Value) = [.int (nI 2), .ref (ad3 57)] from by rw [haW]) ?_
                                      refine m_iald hx hb hE hI 57 (by omega) (j := 2) hw57 (by omega) (by omega) dL_law_547 ?_
                                      refine m_top (show (cntV u (sumz z fi u) fig play n rd came mis lost uns bel) 2 = bI (fb uns t9 fig) from by have hu9 : uns = false := (by revert c_537; cases uns <;> decide); rw [show fb uns t9 fig = fig from by first | (simp [fb, stl, *]; done) | (simp_all [fb, stl]; done)] <;> rfl) ?_
                                      exact K H locs hI
                                    · refine lv_iconst (v := nI 0) hx hb dL_law_540 (by decide) ?_
                                      refine lv_goto (tgt := 548) hx hb dL_law_541 (by decide) ?_
                                      refine m_top (show nI 0 = bI (fb uns t9 fig) from by have hu9 : uns = true := (by revert c_537; cases uns <;> decide); rw [show fb uns t9 fig = false from by first | (simp [fb, stl, *]; done) | (simp_all [fb, stl]; done)] <;> rfl) ?_
                                      exact K H locs hI
                            · refine lv_iconst (v := nI 1) hx hb dL_law_508 (by decide) ?_
                              refine lv_goto (tgt := 548) hx hb dL_law_509 (by decide) ?_
                              refine m_top (show nI 1 = bI (fb uns t9 fig) from by rw [show fb uns t9 fig = true from by first | (simp [fb, stl, *]; done) | (simp_all [fb, stl]; done)] <;> rfl) ?_
                              exact K H locs hI
                          refine lv_istore (lv' := [(16, .int (bI (fb uns t9 fig))), (15, .int (bI sb9)), (14, .int (bI lb9)), (13, .int (bI nw9)), (12, .int (nI ch9)), (11, .int (nI t9)), (10, .int (nI fst9)), (9, .int (nI t9)), (8, .int (nI co9)), (7, .ref aW), (6, .int (nI lst)), (5, .int (nI u)), (4, .int x9), (0, .ref b), (1, .ref ap), (2, .ref aS), (3, .int (nI t))]) hx hb dL_law_548 hl (by decide) rfl (fun ls hl => ?_)
                          refine lv_aload_n hx hb dL_law_550 rfl (lv_at hl 14 rfl) ?_
                          refine lv_iconst (v := nI 2) hx hb dL_law_551 (by decide) ?_
                          refine m_stk (show ([.int (nI 2), .ref ap] : List Value) = [.int (nI 2), .ref (ad3 0)] from by rw [hap]) ?_
                          refine m_callVn (As := [.int (nI 2)]) (rest := []) (c1 := c0 + 513 + 2) (s1 := s0 + 8649 + 12) ⟨hx, hb, hml, hown, hts⟩ hE hI (c_X3_count k l hst ad3 N3 g27 _ uns play rd n lat gar T caC miC loC beC fgC fiC uC zC FC r (nI 2) (by omega) hW hwf (by omega) hC) (fun E h => absurd (inN_nI (n := 11) (show 2 < 11 by omega) (by omega)) (by rw [h.2]; decide)) (cwV 1 hts gL_law_X3_count rfl rfl rfl (by decide +kernel) ⟨Nat.le_of_ble_eq_true rfl, Nat.le_of_ble_eq_true rfl⟩) (i := 0) (by omega) hC.1 rfl rfl hl.1 rfl (Nat.le_of_ble_eq_true rfl) dL_law_552 (by omega) (by omega) ⟨(by show _ ≤ 600130; omega), (by show _ ≤ 7301080; omega)⟩ (fun r9 g9 H locs hp hI => ?_)
                          obtain ⟨_, hr9, hg9⟩ := hp
                          rw [hg9] at hI
                          rw [tn_nI (j := 2) (by omega)] at hr9
                          refine m_top hr9 ?_
                          refine m_top (show cntV uC (sumz zC fiC uC) fgC play n rd caC miC loC uns beC 2 = bI fgC from rfl) ?_
                          refine lv_iload hx hb dL_law_555 (lv_at hl 0 rfl) ?_
                          refine m_ceqB (tgt := 562) hx hb dL_law_557 (by decide) (fun c_557 => ?_) (fun c_557 => ?_)
                          · refine lv_iload_n hx hb dL_law_562 rfl (lv_at hl 16 rfl) ?_
                            refine lv_iconst (v := nI 4) hx hb dL_law_563 (by decide) ?_
                            refine m_iremN hx hb (by omega) (by omega) (by omega) dL_law_564 ?_
                            refine lv_iconst (v := nI 3) hx hb dL_law_565 (by decide) ?_
                            refine m_cneN (tgt := 856) hx hb (by omega) (by omega) dL_law_566 (by decide) (fun c_566 => ?_) (fun c_566 => ?_)
                            · obtain ⟨adD, gD, hE, hI, hAD, hGD, hS⟩ := SR.del hE hI hS
                              have hC : CR k adD gD uns play rd n lat gar T (caC, miC, loC, beC, fgC, fiC, uC, zC, FC) r := CR.moved hC (fun i hi => hAD i (by omega)) (fun i hi => hGD i (by omega))
                              have hap : adD 0 = ap := (hAD 0 (by omega)).trans hap
                              have haS : adD 50 = aS := (hAD 50 (by omega)).trans haS
                              refine W.widen (k := c0 + 1200) (n := s0 + 20000) (by omega) (by omega) ?_
                              refine lv_iinc (v := nI (t + 1)) (lv' := [(3, .int (nI (t + 1))), (16, .int (bI (fb uns t9 fig))), (15, .int (bI sb9)), (14, .int (bI lb9)), (13, .int (bI nw9)), (12, .int (nI ch9)), (11, .int (nI t9)), (10, .int (nI fst9)), (9, .int (nI t9)), (8, .int (nI co9)), (7, .ref aW), (6, .int (nI lst)), (5, .int (nI u)), (4, .int x9), (0, .ref b), (1, .ref ap), (2, .ref aS)]) hx hb dL_law_856 hl (k := 16) rfl (nI_add t 1) (by decide) rfl (fun ls hl => ?_)
                              refine lv_goto (tgt := 22) hx hb dL_law_859 (by decide) ?_
                              exact K adD _ gD _ _ _ hE hI ⟨uns , play , rd , n , lat, gar, T, (caC, miC, loC, beC, fgC, fiC, uC, zC, FC), (caC, miC, loC, beC, fgC, uC, sl1, sp1), r, hC, hS, hW, hwf, hwv2, hYR2, (show caC ≤ cm + 300 by omega)⟩ hap haS (lv_sub hl [14, 15, 16, 0] rfl)
                            · refine lv_aload_n hx hb dL_law_569 rfl (lv_at hl 14 rfl) ?_
                              refine lv_iconst (v := nI 4) hx hb dL_law_570 (by decide) ?_
                              refine m_stk (show ([.int (nI 4), .ref ap] : List Value) = [.int (nI 4), .ref (ad3 0)] from by rw [hap]) ?_
                              refine m_callVn (As := [.int (nI 4)]) (rest := []) (c1 := c0 + 513 + 3) (s1 := s0 + 8649 + 18) ⟨hx, hb, hml, hown, hts⟩ hE hI (c_X3_count k l hst ad3 N3 g27 _ uns play rd n lat gar T caC miC loC beC fgC fiC uC zC FC r (nI 4) (by omega) hW hwf (by omega) hC) (fun E h => absurd (inN_nI (n := 11) (show 4 < 11 by omega) (by omega)) (by rw [h.2]; decide)) (cwV 1 hts gL_law_X3_count rfl rfl rfl (by decide +kernel) ⟨Nat.le_of_ble_eq_true rfl, Nat.le_of_ble_eq_true rfl⟩) (i := 0) (by omega) hC.1 rfl rfl hl.1 rfl (Nat.le_of_ble_eq_true rfl) dL_law_571 (by omega) (by omega) ⟨(by show _ ≤ 600130; omega), (by show _ ≤ 7301080; omega)⟩ (fun r9 g9 H locs hp hI => ?_)
                              obtain ⟨_, hr9, hg9⟩ := hp
                              rw [hg9] at hI
                              rw [tn_nI (j := 4) (by omega)] at hr9
                              refine m_top hr9 ?_
                              refine m_top (show cntV uC (sumz zC fiC uC) fgC play n rd caC miC loC uns beC 4 = nI n from rfl) ?_
                              refine lv_istore (lv' := [(17, .int (nI n)), (16, .int (bI (fb uns t9 fig))), (15, .int (bI sb9)), (14, .int (bI lb9)), (13, .int (bI nw9)), (12, .int (nI ch9)), (11, .int (nI t9)), (10, .int (nI fst9)), (9, .int (nI t9)), (8, .int (nI co9)), (7, .ref aW), (6, .int (nI lst)), (5, .int (nI u)), (4, .int x9), (0, .ref b), (1, .ref ap), (2, .ref aS), (3, .int (nI t))]) hx hb dL_law_574 hl (by decide) rfl (fun ls hl => ?_)
                              refine lv_iload hx hb dL_law_576 (lv_at hl 0 rfl) ?_
                              refine lv_aload_n hx hb dL_law_578 rfl (lv_at hl 15 rfl) ?_
                              refine lv_iconst (v := nI 5) hx hb dL_law_579 (by decide) ?_
                              refine m_stk (show ([.int (nI 5), .ref ap, .int (nI n)] : List Value) = [.int (nI 5), .ref (ad3 0), .int (nI n)] from by rw [hap]) ?_
                              refine m_callVn (As := [.int (nI 5)]) (rest := [.int (nI n)]) (c1 := c0 + 513 + 4) (s1 := s0 + 8649 + 24) ⟨hx, hb, hml, hown, hts⟩ hE hI (c_X3_count k l hst ad3 N3 g27 _ uns play rd n lat gar T caC miC loC beC fgC fiC uC zC FC r (nI 5) (by omega) hW hwf (by omega) hC) (fun E h => absurd (inN_nI (n := 11) (show 5 < 11 by omega) (by omega)) (by rw [h.2]; decide)) (cwV 1 hts gL_law_X3_count rfl rfl rfl (by decide +kernel) ⟨Nat.le_of_ble_eq_true rfl, Nat.le_of_ble_eq_true rfl⟩) (i := 0) (by omega) hC.1 rfl rfl hl.1 rfl (Nat.le_of_ble_eq_true rfl) dL_law_580 (by omega) (by omega) ⟨(by show _ ≤ 600130; omega), (by show _ ≤ 7301080; omega)⟩ (fun r9 g9 H locs hp hI => ?_)
                              obtain ⟨_, hr9, hg9⟩ := hp
                              rw [hg9] at hI
                              rw [tn_nI (j := 5) (by omega)] at hr9
                              refine m_top hr9 ?_
                              refine m_top (show cntV uC (sumz zC fiC uC) fgC play n rd caC miC loC uns beC 5 = nI rd from rfl) ?_
                              refine m_isubN hx hb (by omega) dL_law_583 ?_
                              refine lv_istore (lv' := [(18, .int (nI (n - rd))), (17, .int (nI n)), (16, .int (bI (fb uns t9 fig))), (15, .int (bI sb9)), (14, .int (bI lb9)), (13, .int (bI nw9)), (12, .int (nI ch9)), (11, .int (nI t9)), (10, .int (nI fst9)), (9, .int (nI t9)), (8, .int (nI co9)), (7, .ref aW), (6, .int (nI lst)), (5, .int (nI u)), (4, .int x9), (0, .ref b), (1, .ref ap), (2, .ref aS), (3, .int (nI t))]) hx hb dL_law_584 hl (by decide) rfl (fun ls hl => ?_)
                              refine lv_aload_n hx hb dL_law_586 rfl (lv_at hl 16 rfl) ?_
                              refine m_stk (show ([.ref ap] : List Value) = [.ref (ad3 0)] from by rw [hap]) ?_
                              refine m_callVi (As := []) (rest := []) ⟨hx, hb, hml, hown, hts⟩ hE hI (c_X3_wrong k l ad3 N3 g27 _ uns play rd n lat gar T caC miC loC beC fgC fiC uC zC FC r (by omega) hW hwf (by omega) hC) (cwV 0 hts gL_law_X3_wrong rfl rfl rfl (by decide +kernel) ⟨Nat.le_of_ble_eq_true rfl, Nat.le_of_ble_eq_true rfl⟩) (i := 0) (by omega) hC.1 rfl rfl hl.1 rfl (Nat.le_of_ble_eq_true rfl) dL_law_587 ⟨(by show _ ≤ 600130; omega), (by show _ ≤ 7301080; omega)⟩ (m_deti (fun H locs hI => ?_))
                              refine lv_istore (lv' := [(19, .int (nI (wrN play lat gar T rd caC (n - rd)))), (18, .int (nI (n - rd))), (17, .int (nI n)), (16, .int (bI (fb uns t9 fig))), (15, .int (bI sb9)), (14, .int (bI lb9)), (13, .int (bI nw9)), (12, .int (nI ch9)), (11, .int (nI t9)), (10, .int (nI fst9)), (9, .int (nI t9)), (8, .int (nI co9)), (7, .ref aW), (6, .int (nI lst)), (5, .int (nI u)), (4, .int x9), (0, .ref b), (1, .ref ap), (2, .ref aS), (3, .int (nI t))]) hx hb dL_law_590 hl (by decide) rfl (fun ls hl => ?_)
                              refine lv_aload_n hx hb dL_law_592 rfl (lv_at hl 17 rfl) ?_
                              refine m_stk (show ([.ref ap] : List Value) = [.ref (ad3 0)] from by rw [hap]) ?_
                              refine m_callVi (As := []) (rest := []) ⟨hx, hb, hml, hown, hts⟩ hE hI (c_X3_idle k l ad3 N3 g27 _ rd fgC uns caC miC loC beC n T (by omega) hC.1 (by omega) hT hC.2.2.2) (cwV 0 hts gL_law_X3_idle rfl rfl rfl (by decide +kernel) ⟨Nat.le_of_ble_eq_true rfl, Nat.le_of_ble_eq_true rfl⟩) (i := 0) (by omega) hC.1 rfl rfl hl.1 rfl (Nat.le_of_ble_eq_true rfl) dL_law_593 ⟨(by show _ ≤ 600130; omega), (by show _ ≤ 7301080; omega)⟩ (m_deti (fun H locs hI => ?_))
                              refine lv_istore (lv' := [(20, .int (nI (idl uns T n n))), (19, .int (nI (wrN play lat gar T rd caC (n - rd)))), (18, .int (nI (n - rd))), (17, .int (nI n)), (16, .int (bI (fb uns t9 fig))), (15, .int (bI sb9)), (14, .int (bI lb9)), (13, .int (bI nw9)), (12, .int (nI ch9)), (11, .int (nI t9)), (10, .int (nI fst9)), (9, .int (nI t9)), (8, .int (nI co9)), (7, .ref aW), (6, .int (nI lst)), (5, .int (nI u)), (4, .int x9), (0, .ref b), (1, .ref ap), (2, .ref aS), (3, .int (nI t))]) hx hb dL_law_596 hl (by decide) rfl (fun ls hl => ?_)
                              refine lv_aload_n hx hb dL_law_598 rfl (lv_at hl 18 rfl) ?_
                              refine lv_bipush (v := nI 7) hx hb dL_law_599 (by decide) ?_
                              refine m_stk (show ([.int (nI 7), .ref ap] : List Value) = [.int (nI 7), .ref (ad3 0)] from by rw [hap]) ?_
                              refine m_callVn (As := [.int (nI 7)]) (rest := []) (c1 := c0 + 513 + 5) (s1 := s0 + 8649 + 30) ⟨hx, hb, hml, hown, hts⟩ hE hI (c_X3_count k l hst ad3 N3 g27 _ uns play rd n lat gar T caC miC loC beC fgC fiC uC zC FC r (nI 7) (by omega) hW hwf (by omega) hC) (fun E h => absurd (inN_nI (n := 11) (show 7 < 11 by omega) (by omega)) (by rw [h.2]; decide)) (cwV 1 hts gL_law_X3_count rfl rfl rfl (by decide +kernel) ⟨Nat.le_of_ble_eq_true rfl, Nat.le_of_ble_eq_true rfl⟩) (i := 0) (by omega) hC.1 rfl rfl hl.1 rfl (Nat.le_of_ble_eq_true rfl) dL_law_601 (by omega) (by omega) ⟨(by show _ ≤ 600130; omega), (by show _ ≤ 7301080; omega)⟩ (fun r9 g9 H locs hp hI => ?_)
                              obtain ⟨_, hr9, hg9⟩ := hp
                              rw [hg9] at hI
                              rw [tn_nI (j := 7) (by omega)] at hr9
                              refine m_top hr9 ?_
                              refine m_top (show cntV uC (sumz zC fiC uC) fgC play n rd caC miC loC uns beC 7 = miC from rfl) ?_
                              refine lv_istore (lv' := [(21, .int miC), (20, .int (nI (idl uns T n n))), (19, .int (nI (wrN play lat gar T rd caC (n - rd)))), (18, .int (nI (n - rd))), (17, .int (nI n)), (16, .int (bI (fb uns t9 fig))), (15, .int (bI sb9)), (14, .int (bI lb9)), (13, .int (bI nw9)), (12, .int (nI ch9)), (11, .int (nI t9)), (10, .int (nI fst9)), (9, .int (nI t9)), (8, .int (nI co9)), (7, .ref aW), (6, .int (nI lst)), (5, .int (nI u)), (4, .int x9), (0, .ref b), (1, .ref ap), (2, .ref aS), (3, .int (nI t))]) hx hb dL_law_604 hl (by decide) rfl (fun ls hl => ?_)
                              have hwr1 := wrN_le play lat gar T rd caC (n - rd)
                              refine lv_iload hx hb dL_law_606 (lv_at hl 2 rfl) ?_
                              refine m_zltN (tgt := 630) hx hb (by omega) dL_law_608 (by decide) ?_
                              refine lv_iload hx hb dL_law_611 (lv_at hl 2 rfl) ?_
                              refine lv_iload hx hb dL_law_613 (lv_at hl 3 rfl) ?_
                              refine m_cgtN (tgt := 630) hx hb (by omega) (by omega) dL_law_615 (by decide) (fun c_615 => ?_) (fun c_615 => ?_)
                              · exact (show False by omega).elim
                              · refine lv_iload hx hb dL_law_618 (lv_at hl 1 rfl) ?_
                                have hid1 := idl_le uns T n n
                                refine m_zltN (tgt := 630) hx hb (by omega) dL_law_620 (by decide) ?_
                                refine lv_iload hx hb dL_law_623 (lv_at hl 1 rfl) ?_
                                refine lv_iload hx hb dL_law_625 (lv_at hl 4 rfl) ?_
                                refine m_cleN (tgt := 632) hx hb (by omega) (by omega) dL_law_627 (by decide) (fun c_627 => ?_) (fun c_627 => ?_)
                                · refine lv_iload hx hb dL_law_632 (lv_at hl 4 rfl) ?_
                                  refine m_zleN (tgt := 739) hx hb (by omega) dL_law_634 (by decide) (fun c_634 => ?_) (fun c_634 => ?_)
                                  · refine lv_aload_n hx hb dL_law_739 rfl (lv_at hl 19 rfl) ?_
                                    refine lv_bipush (v := nI 120) hx hb dL_law_740 (by decide) ?_
                                    refine m_stk (show ([.int (nI 120), .ref ap] : List Value) = [.int (nI 120), .ref (ad3 0)] from by rw [hap]) ?_
                                    refine m_callVn (As := [.int (nI 120)]) (rest := []) (c1 := c0 + 513 + 6) (s1 := s0 + 8649 + 36) ⟨hx, hb, hml, hown, hts⟩ hE hI (c_X3_run k l hst ad3 N3 g27 _ uns play rd n lat gar T caC miC loC beC fgC fiC uC zC FC r (nI 120) (by omega) hW hwf (by omega) hC) (fun E h => absurd (in120_nI 120 (by omega) (by omega)) (by rw [h.2]; decide)) (cwV 1 hts gL_law_X3_run rfl rfl rfl (by decide +kernel) ⟨Nat.le_of_ble_eq_true rfl, Nat.le_of_ble_eq_true rfl⟩) (i := 0) (by omega) hC.1 rfl rfl hl.1 rfl (Nat.le_of_ble_eq_true rfl) dL_law_742 (by omega) (by omega) ⟨(by show _ ≤ 600130; omega), (by show _ ≤ 7301080; omega)⟩ (fun r9 g9 H locs hp hI => ?_)
                                    obtain ⟨g28, hg28⟩ : ∃ zz, zz = g9 := ⟨_, rfl⟩
                                    rw [← hg28] at hp hI
                                    obtain ⟨_, hr9, hC9, hk9⟩ := hp
                                    rw [tn_nI (j := 120) (by omega)] at hr9
                                    rw [tn_nI (j := 120) (by omega)] at hC9
                                    refine m_top hr9 ?_
                                    have hI : mI k ad3 N3 g28 (A) s H locs := hI
                                    have hC : CR k ad3 g28 uns play (rd + min 120 (n - rd)) n lat gar T (yRun cNl cFull cAdd uns play lat gar T rd (caC, miC, loC, beC, fgC, fiC, uC, zC, FC) (min 120 (n - rd))) r := hC9
                                    have hS : SR k ad3 58 N3 g28 uns play rd n lat gar T (caC, miC, loC, beC, fgC, uC, sl1, sp1) := SR.kept hS hk9
                                    have hw57 : g28 57 = .inl (k.2.1.1, 11, .inl (cntV u (sumz z fi u) fig play n rd came mis lost uns bel)) := by rw [hk9 _ (by omega)]; exact hw57
                                    refine m_top (show nI (min 120 (n - rd)) = nI (n - rd) from by rw [show min 120 (n - rd) = n - rd by omega]) ?_
                                    rw [show min 120 (n - rd) = n - rd by omega] at hC
                                    obtain ⟨v7, hv7⟩ : ∃ zz, zz = yRun cNl cFull cAdd uns play lat gar T rd (caC, miC, loC, beC, fgC, fiC, uC, zC, FC) (n - rd) := ⟨_, rfl⟩
                                    rw [← hv7] at hC
                                    obtain ⟨caR, miR, loR, beR, fgR, fiR, uR, zR, FR⟩ := v7
                                    have hC : CR k ad3 g28 uns play (rd + (n - rd)) n lat gar T (caR, miR, loR, beR, fgR, fiR, uR, zR, FR) r := hC
                                    have hca7 : caR = caC + (n - rd) := by have h1 : (caR, miR, loR, beR, fgR, fiR, uR, zR, FR).1 = _ := congrArg (fun y : YT PC => y.1) hv7; rw [yRun_1] at h1; exact h1
                                    have hmi7 : miR = miC + nI (wrN play lat gar T rd caC (n - rd)) := by have h1 : (caR, miR, loR, beR, fgR, fiR, uR, zR, FR).2.1 = _ := congrArg (fun y : YT PC => y.2.1) hv7; rw [yRun_mis] at h1; exact h1
                                    have hwf1 := hwf
                                    have hwf : cWf (fiR, uR, zR, FR) := by have h1 : cWf (caR, miR, loR, beR, fgR, fiR, uR, zR, FR).2.2.2.2.2 := (by rw [hv7]; exact cWf_run (y := (caC, miC, loC, beC, fgC, fiC, uC, zC, FC)) hwf (n - rd)); exact h1
                                    have hW1 := hW
                                    have hW : CW play (rd + (n - rd)) n lat gar T := CW.rd hW (by omega)
                                    refine lv_istore (lv' := [(22, .int (nI (n - rd))), (21, .int miC), (20, .int (nI (idl uns T n n))), (19, .int (nI (wrN play lat gar T rd caC (n - rd)))), (18, .int (nI (n - rd))), (17, .int (nI n)), (16, .int (bI (fb uns t9 fig))), (15, .int (bI sb9)), (14, .int (bI lb9)), (13, .int (bI nw9)), (12, .int (nI ch9)), (11, .int (nI t9)), (10, .int (nI fst9)), (9, .int (nI t9)), (8, .int (nI co9)), (7, .ref aW), (6, .int (nI lst)), (5, .int (nI u)), (4, .int x9), (0, .ref b), (1, .ref ap), (2, .ref aS), (3, .int (nI t))]) hx hb dL_law_745 hl (by decide) rfl (fun ls hl => ?_)
                                    refine lv_iload hx hb dL_law_747 (lv_at hl 0 rfl) ?_
                                    refine lv_iload hx hb dL_law_749 (lv_at hl 4 rfl) ?_
                                    refine m_cneN (tgt := 785) hx hb (by omega) (by omega) dL_law_751 (by decide) (fun c_751 => ?_) (fun c_751 => ?_)
                                    · exact absurd rfl c_751
                                    · refine lv_aload_n hx hb dL_law_754 rfl (lv_at hl 20 rfl) ?_
                                      refine lv_bipush (v := nI 7) hx hb dL_law_755 (by decide) ?_
                                      refine m_stk (show ([.int (nI 7), .ref ap] : List Value) = [.int (nI 7), .ref (ad3 0)] from by rw [hap]) ?_
                                      refine m_callVn (As := [.int (nI 7)]) (rest := []) (c1 := c0 + 513 + 7) (s1 := s0 + 8649 + 42) ⟨hx, hb, hml, hown, hts⟩ hE hI (c_X3_count k l hst ad3 N3 g28 _ uns play (rd + (n - rd)) n lat gar T caR miR loR beR fgR fiR uR zR FR r (nI 7) (by omega) hW hwf (by omega) hC) (fun E h => absurd (inN_nI (n := 11) (show 7 < 11 by omega) (by omega)) (by rw [h.2]; decide)) (cwV 1 hts gL_law_X3_count rfl rfl rfl (by decide +kernel) ⟨Nat.le_of_ble_eq_true rfl, Nat.le_of_ble_eq_true rfl⟩) (i := 0) (by omega) hC.1 rfl rfl hl.1 rfl (Nat.le_of_ble_eq_true rfl) dL_law_757 (by omega) (by omega) ⟨(by show _ ≤ 600130; omega), (by show _ ≤ 7301080; omega)⟩ (fun r9 g9 H locs hp hI => ?_)
                                      obtain ⟨_, hr9, hg9⟩ := hp
                                      rw [hg9] at hI
                                      rw [tn_nI (j := 7) (by omega)] at hr9
                                      refine m_top hr9 ?_
                                      refine m_top (show cntV uR (sumz zR fiR uR) fgR play n (rd + (n - rd)) caR miR loR uns beR 7 = miR from rfl) ?_
                                      refine lv_iload hx hb dL_law_760 (lv_at hl 1 rfl) ?_
                                      refine lv_iload hx hb dL_law_762 (lv_at hl 3 rfl) ?_
                                      refine lv_iadd hx hb dL_law_764 ?_
                                      refine lv_icmp_ne (tgt := 785) hx hb dL_law_765 (by decide) (fun c_765 => ?_) (fun c_765 => ?_)
                                      · exact absurd hmi7 c_765
                                      · refine lv_aload_n hx hb dL_law_768 rfl (lv_at hl 20 rfl) ?_
                                        refine lv_iconst (v := nI 5) hx hb dL_law_769 (by decide) ?_
                                        refine m_stk (show ([.int (nI 5), .ref ap] : List Value) = [.int (nI 5), .ref (ad3 0)] from by rw [hap]) ?_
                                        refine m_callVn (As := [.int (nI 5)]) (rest := []) (c1 := c0 + 513 + 8) (s1 := s0 + 8649 + 48) ⟨hx, hb, hml, hown, hts⟩ hE hI (c_X3_count k l hst ad3 N3 g28 _ uns play (rd + (n - rd)) n lat gar T caR miR loR beR fgR fiR uR zR FR r (nI 5) (by omega) hW hwf (by omega) hC) (fun E h => absurd (inN_nI (n := 11) (show 5 < 11 by omega) (by omega)) (by rw [h.2]; decide)) (cwV 1 hts gL_law_X3_count rfl rfl rfl (by decide +kernel) ⟨Nat.le_of_ble_eq_true rfl, Nat.le_of_ble_eq_true rfl⟩) (i := 0) (by omega) hC.1 rfl rfl hl.1 rfl (Nat.le_of_ble_eq_true rfl) dL_law_770 (by omega) (by omega) ⟨(by show _ ≤ 600130; omega), (by show _ ≤ 7301080; omega)⟩ (fun r9 g9 H locs hp hI => ?_)
                                        obtain ⟨_, hr9, hg9⟩ := hp
                                        rw [hg9] at hI
                                        rw [tn_nI (j := 5) (by omega)] at hr9
                                        refine m_top hr9 ?_
                                        refine m_top (show cntV uR (sumz zR fiR uR) fgR play n (rd + (n - rd)) caR miR loR uns beR 5 = nI (rd + (n - rd)) from rfl) ?_
                                        refine lv_iload hx hb dL_law_773 (lv_at hl 5 rfl) ?_
                                        refine m_cneN (tgt := 785) hx hb (by omega) (by omega) dL_law_775 (by decide) (fun c_775 => ?_) (fun c_775 => ?_)
                                        · exact absurd (show rd + (n - rd) = n by omega) c_775
                                        · refine lv_aload_n hx hb dL_law_778 rfl (lv_at hl 20 rfl) ?_
                                          refine m_stk (show ([.ref ap] : List Value) = [.ref (ad3 0)] from by rw [hap]) ?_
                                          refine m_callVi (As := []) (rest := []) ⟨hx, hb, hml, hown, hts⟩ hE hI (c_X3_wrong k l ad3 N3 g28 _ uns play (rd + (n - rd)) n lat gar T caR miR loR beR fgR fiR uR zR FR r (by omega) hW hwf (by omega) hC) (cwV 0 hts gL_law_X3_wrong rfl rfl rfl (by decide +kernel) ⟨Nat.le_of_ble_eq_true rfl, Nat.le_of_ble_eq_true rfl⟩) (i := 0) (by omega) hC.1 rfl rfl hl.1 rfl (Nat.le_of_ble_eq_true rfl) dL_law_779 ⟨(by show _ ≤ 600130; omega), (by show _ ≤ 7301080; omega)⟩ (m_deti (fun H locs hI => ?_))
                                          refine m_top (show nI (wrN play lat gar T (rd + (n - rd)) caR (n - (rd + (n - rd)))) = nI 0 from by rw [show n - (rd + (n - rd)) = 0 by omega] <;> rfl) ?_
                                          refine m_zeqN (tgt := 787) hx hb (by omega) dL_law_782 (by decide) (fun c_782 => ?_) (fun c => absurd c (by decide))
                                          refine m_cs (c1 := c0 + 513 + 8 + 4 * 0) (s1 := s0 + 8649 + 48 + 70 * 0) (by omega) (by omega) ?_
                                          refine m_loopG (σ := Nat × (Nat → Nat) × Nat × (Nat → va_E)) (fun x H locs ls => x.1 ≤ n - rd ∧ mE k x.2.1 x.2.2.1 A s ∧ mI k x.2.1 x.2.2.1 x.2.2.2 A s H locs ∧ CR k x.2.1 x.2.2.2 uns play (rd + (n - rd)) n lat gar T (caR, miR, loR, beR, fgR, fiR, uR, zR, FR) r ∧ SR k x.2.1 58 x.2.2.1 x.2.2.2 uns play (rd + x.1) n lat gar T (yRun sNl sFull sAdd uns play lat gar T rd (caC, miC, loC, beC, fgC, uC, sl1, sp1) x.1) ∧ x.2.1 0 = ap ∧ x.2.1 50 = aS ∧ lv_has ls 24 [(0, .ref b), (1, .ref ap), (2, .ref aS), (3, .int (nI t)), (4, .int x9), (17, .int (nI n))]) (fun x => n - x.1) (fun x => c0 + 513 + 8 + 4 * x.1) (fun x => s0 + 8649 + 48 + 70 * x.1) (0, ad3, N3, g28) ⟨Nat.zero_le _, hE, hI, hC, hS, hap, haS, lv_sub hl [19, 20, 21, 22, 18, 5] rfl⟩ ?_
                                          rintro ⟨i9, adL, NL, gL⟩ ih H locs ls ⟨hi9, hE, hI, hC, hS, hap, haS, hl⟩
                                          have hi9 : i9 ≤ n - rd := hi9
                                          obtain ⟨v9, hv9⟩ : ∃ zz, zz = yRun sNl sFull sAdd uns play lat gar T rd (caC, miC, loC, beC, fgC, uC, sl1, sp1) i9 := ⟨_, rfl⟩
                                          have hS : SR k adL 58 NL gL uns play (rd + i9) n lat gar T v9 := by rw [hv9]; exact hS
                                          have hwv9 : sWf v9.2.2.2.2.2 := by rw [hv9]; exact sWf_run (y := (caC, miC, loC, beC, fgC, uC, sl1, sp1)) hwv2 i9
                                          have hca9 : v9.1 = caC + i9 := by rw [hv9]; exact yRun_1 i9
                                          obtain ⟨cb, mb, lb, bb, fbb, ub9, lnb, pgb⟩ := v9
                                          have hcb : cb = caC + i9 := hca9
                                          have hwv : sWf (ub9, lnb, pgb) := hwv9
                                          obtain ⟨g29, hg29⟩ : ∃ zz, zz = gL := ⟨_, rfl⟩
                                          have hE : mE k adL NL A s := hE
                                          have hI : mI k adL NL g29 (A) s H locs := by rw [hg29]; exact hI
                                          have hC : CR k adL g29 uns play (rd + (n - rd)) n lat gar T (caR, miR, loR, beR, fgR, fiR, uR, zR, FR) r := by rw [hg29]; exact hC
                                          have hS : SR k adL 58 NL g29 uns play (rd + i9) n lat gar T (cb, mb, lb, bb, fbb, ub9, lnb, pgb) := by rw [hg29]; exact hS
                                          have hap : adL 0 = ap := hap
                                          have haS : adL 50 = aS := haS
                                          have hNu : 58 + ub9 ≤ NL := hS.1.2
                                          have hl : lv_has ls 24 [(0, .ref b), (1, .ref ap), (2, .ref aS), (3, .int (nI t)), (4, .int x9), (17, .int (nI n))] := hl
                                          show W p l e _ s m _ below meth c _ _ (c0 + 513 + 8 + 4 * i9) (s0 + 8649 + 48 + 70 * i9) _ _
                                          have hF : FRA adL g29 58 adL g29 := FRA.rf
                                          have hT8 : T (rd + i9) < 32 := hW.2.2.2.2.1 _
                                          refine lv_aload_n hx hb dL_law_787 rfl (lv_at hl 2 rfl) ?_
                                          refine m_stk (show ([.ref aS] : List Value) = [.ref (adL 50)] from by rw [haS]) ?_
                                          refine m_get (ci := 4) (C := RX4) (T := TX4) (N' := 14) hx hb hts inlX4 hown hE hI 50 (by omega) (show g29 50 = .inr (4, [.ref (adL 51), .ref (adL 52), .ref (adL 53), .int (bI fbb), .int (bI uns), .int (nI play), .ref (adL 54), .ref (adL 55), .ref (adL 56), .int (nI (rd + i9)), .int (nI cb), .int mb, .int lb, .int bb]) from hS.2.1) rfl 9 (by decide) (hts (.fieldLink RL 80 "TapePrinterLaw$Sim" "reader" "I") (by decide +kernel)) rfl dL_law_788 ?_
                                          refine lv_iload hx hb dL_law_791 (lv_at hl 5 rfl) ?_
                                          refine m_cgeN (tgt := 823) hx hb (by omega) (by omega) dL_law_793 (by decide) (fun c_793 => ?_) (fun c_793 => ?_)
                                          · have hie : i9 = n - rd := by omega
                                            refine lv_aload_n hx hb dL_law_823 rfl (lv_at hl 1 rfl) ?_
                                            refine lv_iload hx hb dL_law_824 (lv_at hl 4 rfl) ?_
                                            refine lv_iload hx hb dL_law_826 (lv_at hl 5 rfl) ?_
                                            refine lv_iconst (v := nI 1) hx hb dL_law_828 (by decide) ?_
                                            refine m_iaddN hx hb dL_law_829 ?_
                                            refine m_callSi (As := [.int x9, .int (nI (n + 1))]) (rest := [.ref ap]) ⟨hx, hb, hml, hown, hts⟩ hE hI (c_L_below k l adL NL g29 _ x9 (n + 1) (by omega) (by omega)) (va_cwS 2 hts gL_law_L_below rfl rfl rfl (by decide +kernel) ⟨Nat.le_of_ble_eq_true rfl, Nat.le_of_ble_eq_true rfl⟩) rfl hl.1 rfl (Nat.le_of_ble_eq_true rfl) dL_law_830 ⟨(by show _ ≤ 600130; omega), (by show _ ≤ 7301080; omega)⟩ (m_deti (fun H locs hI => ?_))
                                            have hbw_2 := blw_lt (v := x9) (b := n + 1) (by omega)
                                            obtain ⟨w9, hw9⟩ : ∃ zz, zz = blw x9 (n + 1) := ⟨_, rfl⟩
                                            refine m_top (show nI (blw x9 (n + 1)) = nI w9 from by rw [hw9]) ?_
                                            have hbw9 : w9 < (n + 1) := by rw [hw9]; omega
                                            refine m_stk (show ([.int (nI w9), .ref ap] : List Value) = [.int (nI w9), .ref (adL 0)] from by rw [hap]) ?_
                                            refine m_callVn (As := [.int (nI w9)]) (rest := []) (c1 := c0 + 513 + 8 + 4 * i9 + 1) (s1 := s0 + 8649 + 48 + 70 * i9 + 6) ⟨hx, hb, hml, hown, hts⟩ hE hI (c_X3_wind k l hst adL NL g29 _ uns play (rd + (n - rd)) n lat gar T caR miR loR beR fgR fiR uR zR FR r (nI w9) (by omega) hW hwf (by omega) hC) (fun E h => absurd (inN_nI (n := (n + 1)) (show w9 < (n + 1) by omega) (by omega)) (by rw [h.2]; decide)) (cwV 1 hts gL_law_X3_wind rfl rfl rfl (by decide +kernel) ⟨Nat.le_of_ble_eq_true rfl, Nat.le_of_ble_eq_true rfl⟩) (i := 0) (by omega) hC.1 rfl rfl hl.1 rfl (Nat.le_of_ble_eq_true rfl) dL_law_833 (by omega) (by omega) ⟨(by show _ ≤ 600130; omega), (by show _ ≤ 7301080; omega)⟩ (fun r9 g9 H locs hp hI => ?_)
                                            obtain ⟨g30, hg30⟩ : ∃ zz, zz = g9 := ⟨_, rfl⟩
                                            rw [← hg30] at hp hI
                                            obtain ⟨_, hr9, hC9, hk9⟩ := hp
                                            rw [tn_nI (j := w9) (by omega)] at hC9
                                            refine m_top hr9 ?_
                                            have hI : mI k adL NL g30 (A) s H locs := hI
                                            have hC : CR k adL g30 uns play w9 n lat gar T (caR, miR, loR, beR, fgR, fiR, uR, zR, FR) r := hC9
                                            have hS : SR k adL 58 NL g30 uns play (rd + i9) n lat gar T (cb, mb, lb, bb, fbb, ub9, lnb, pgb) := SR.kept hS hk9
                                            refine lv_iload hx hb dL_law_836 (lv_at hl 5 rfl) ?_
                                            refine m_ceqN (tgt := 843) hx hb (by omega) (by omega) dL_law_838 (by decide) (fun c_838 => ?_) (fun c_838 => ?_)
                                            · refine lv_aload_n hx hb dL_law_843 rfl (lv_at hl 2 rfl) ?_
                                              refine lv_iload hx hb dL_law_844 (lv_at hl 4 rfl) ?_
                                              refine lv_iload hx hb dL_law_846 (lv_at hl 5 rfl) ?_
                                              refine lv_iconst (v := nI 1) hx hb dL_law_848 (by decide) ?_
                                              refine m_iaddN hx hb dL_law_849 ?_
                                              refine m_callSi (As := [.int x9, .int (nI (n + 1))]) (rest := [.ref aS]) ⟨hx, hb, hml, hown, hts⟩ hE hI (c_L_below k l adL NL g30 _ x9 (n + 1) (by omega) (by omega)) (va_cwS 2 hts gL_law_L_below rfl rfl rfl (by decide +kernel) ⟨Nat.le_of_ble_eq_true rfl, Nat.le_of_ble_eq_true rfl⟩) rfl hl.1 rfl (Nat.le_of_ble_eq_true rfl) dL_law_850 ⟨(by show _ ≤ 600130; omega), (by show _ ≤ 7301080; omega)⟩ (m_deti (fun H locs hI => ?_))
                                              have hbw_3 := blw_lt (v := x9) (b := n + 1) (by omega)
                                              refine m_top (show nI (blw x9 (n + 1)) = nI w9 from by rw [hw9]) ?_
                                              refine m_stk (show ([.int (nI w9), .ref aS] : List Value) = [.int (nI w9), .ref (adL 50)] from by rw [haS]) ?_
                                              refine m_put (ci := 4) (C := RX4) (T := TX4) (N' := 14) (ty := .int) hx hb hts inlX4 tyX4 tyX4_ok nmX4 hown hE hI 50 (by omega) (show g30 50 = .inr (4, [.ref (adL 51), .ref (adL 52), .ref (adL 53), .int (bI fbb), .int (bI uns), .int (nI play), .ref (adL 54), .ref (adL 55), .ref (adL 56), .int (nI (rd + i9)), .int (nI cb), .int mb, .int lb, .int bb]) from hS.2.1) rfl 9 (by decide) (hts (.fieldLink RL 80 "TapePrinterLaw$Sim" "reader" "I") (by decide +kernel)) rfl (by decide +kernel) rfl rfl (Nat.le_of_ble_eq_true rfl) dL_law_853 (fun H locs hI => ?_)
                                              obtain ⟨g31, hg31⟩ : ∃ zz, zz = va_up g30 50 (.inr (4, [.ref (adL 51), .ref (adL 52), .ref (adL 53), .int (bI fbb), .int (bI uns), .int (nI play), .ref (adL 54), .ref (adL 55), .ref (adL 56), .int (nI w9), .int (nI cb), .int mb, .int lb, .int bb])) := ⟨_, rfl⟩
                                              replace hI : mI k adL NL g31 (A) s H locs := by rw [hg31]; exact hI
                                              have hS : SR k adL 58 NL g31 uns play w9 n lat gar T (cb, mb, lb, bb, fbb, ub9, lnb, pgb) := by rw [hg31]; exact SR.obj hS
                                              have hC : CR k adL g31 uns play w9 n lat gar T (caR, miR, loR, beR, fgR, fiR, uR, zR, FR) r := by rw [hg31]; exact CR.kept hC (fun i hi => va_up_ne _ _ (by omega))
                                              obtain ⟨adD, gD, hE, hI, hAD, hGD, hS⟩ := SR.del hE hI hS
                                              have hC : CR k adD gD uns play w9 n lat gar T (caR, miR, loR, beR, fgR, fiR, uR, zR, FR) r := CR.moved hC (fun i hi => hAD i (by omega)) (fun i hi => hGD i (by omega))
                                              have hap : adD 0 = ap := (hAD 0 (by omega)).trans hap
                                              have haS : adD 50 = aS := (hAD 50 (by omega)).trans haS
                                              have hYR3 : YRS (caR, miR, loR, beR, fgR, fiR, uR, zR, FR) (cb, mb, lb, bb, fbb, ub9, lnb, pgb) := by rw [hv7, hv9, hie]; exact YRS_run uns play lat gar T rd (y := (caC, miC, loC, beC, fgC, fiC, uC, zC, FC)) (v := (caC, miC, loC, beC, fgC, uC, sl1, sp1)) hwf1 hwv2 hYR2 (n - rd)
                                              refine W.widen (k := c0 + 1200) (n := s0 + 20000) (by omega) (by omega) ?_
                                              refine lv_iinc (v := nI (t + 1)) (lv' := [(3, .int (nI (t + 1))), (0, .ref b), (1, .ref ap), (2, .ref aS), (4, .int x9), (17, .int (nI n))]) hx hb dL_law_856 hl (k := 3) rfl (nI_add t 1) (by decide) rfl (fun ls hl => ?_)
                                              refine lv_goto (tgt := 22) hx hb dL_law_859 (by decide) ?_
                                              exact K adD _ gD _ _ _ hE hI ⟨uns , play , w9 , n , lat, gar, T, (caR, miR, loR, beR, fgR, fiR, uR, zR, FR), (cb, mb, lb, bb, fbb, ub9, lnb, pgb), r, hC, hS, (CW.rd hW (by omega)), hwf, hwv, hYR3, (show caR ≤ cm + 300 by omega)⟩ hap haS (lv_sub hl [1, 2, 3, 0] rfl)
                                            · exact absurd (show rd + (n - rd) = n by omega) c_838
                                          · refine lv_aload_n hx hb dL_law_796 rfl (lv_at hl 2 rfl) ?_
                                            refine lv_aload_n hx hb dL_law_797 rfl (lv_at hl 2 rfl) ?_
                                            refine m_stk (show ([.ref aS, .ref aS] : List Value) = [.ref (adL 50), .ref aS] from by rw [haS]) ?_
                                            refine m_get (ci := 4) (C := RX4) (T := TX4) (N' := 14) hx hb hts inlX4 hown hE hI 50 (by omega) (show g29 50 = .inr (4, [.ref (adL 51), .ref (adL 52), .ref (adL 53), .int (bI fbb), .int (bI uns), .int (nI play), .ref (adL 54), .ref (adL 55), .ref (adL 56), .int (nI (rd + i9)), .int (nI cb), .int mb, .int lb, .int bb]) from hS.2.1) rfl 8 (by decide) (hts (.fieldLink RL 19 "TapePrinterLaw$Sim" "tape" "[I") (by decide +kernel)) rfl dL_law_798 ?_
                                            refine lv_aload_n hx hb dL_law_801 rfl (lv_at hl 2 rfl) ?_
                                            refine m_stk (show ([.ref aS, .ref (adL 56), .ref aS] : List Value) = [.ref (adL 50), .ref (adL 56), .ref aS] from by rw [haS]) ?_
                                            refine m_get (ci := 4) (C := RX4) (T := TX4) (N' := 14) hx hb hts inlX4 hown hE hI 50 (by omega) (show g29 50 = .inr (4, [.ref (adL 51), .ref (adL 52), .ref (adL 53), .int (bI fbb), .int (bI uns), .int (nI play), .ref (adL 54), .ref (adL 55), .ref (adL 56), .int (nI (rd + i9)), .int (nI cb), .int mb, .int lb, .int bb]) from hS.2.1) rfl 9 (by decide) (hts (.fieldLink RL 80 "TapePrinterLaw$Sim" "reader" "I") (by decide +kernel)) rfl dL_law_802 ?_
                                            refine m_iald hx hb hE hI 56 (by omega) (j := rd + i9) (show g29 56 = .inl (k.2.1.1, n, .inl (fun j => nI (T j))) from hS.2.2.2.2.2.2.2.1) (by omega) (by omega) dL_law_805 ?_
                                            refine m_top (show (fun j => nI (T j)) (rd + i9) = nI (T (rd + i9)) from rfl) ?_
                                            have ht_4 := hT (rd + i9)
                                            refine m_stk (show ([.int (nI (T (rd + i9))), .ref aS] : List Value) = [.int (nI (T (rd + i9))), .ref (adL 50)] from by rw [haS]) ?_
                                            refine m_callVgi (As := [.int (nI (T (rd + i9)))]) (rest := []) (c1 := c0 + 513 + 8 + 4 * i9 + 4) (s1 := s0 + 8649 + 48 + 70 * i9 + 70) ⟨hx, hb, hml, hown, hts⟩ hE hI (c_X4_come k l adL NL g29 _ uns play (rd + i9) n lat gar T cb mb lb bb fbb ub9 lnb pgb 58 (T (rd + i9)) (hW.1) (hW.2.2.2.2.2) (hW.2.2.2.1) (by omega) (by omega) hwv hS) (cwV 1 hts gL_law_X4_come rfl rfl rfl (by decide +kernel) ⟨Nat.le_of_ble_eq_true rfl, Nat.le_of_ble_eq_true rfl⟩) (i := 50) (by omega) (show g29 50 = .inr (4, [.ref (adL 51), .ref (adL 52), .ref (adL 53), .int (bI fbb), .int (bI uns), .int (nI play), .ref (adL 54), .ref (adL 55), .ref (adL 56), .int (nI (rd + i9)), .int (nI cb), .int mb, .int lb, .int bb]) from hS.2.1) rfl rfl hl.1 rfl (Nat.le_of_ble_eq_true rfl) dL_law_806 (by omega) (by omega) ⟨(by show _ ≤ 600130; omega), (by show _ ≤ 7301080; omega)⟩ (fun r9 ad4 N4 g9 H locs hp hE hI => ?_)
                                            obtain ⟨g32, hg32⟩ : ∃ zz, zz = g9 := ⟨_, rfl⟩
                                            rw [← hg32] at hp hI
                                            obtain ⟨hr9, hFC, hGC, hS9⟩ := hp
                                            subst hr9
                                            have hE : mE k ad4 N4 (A) s := hE
                                            have hI : mI k ad4 N4 g32 (A) s H locs := hI
                                            have hap : ad4 0 = ap := (hFC.1 0 (by omega)).trans hap
                                            have haS : ad4 50 = aS := (hFC.1 50 (by omega)).trans haS
                                            have hF : FRA adL g29 58 ad4 g32 := FRA.go hF hFC
                                            have hC : CR k ad4 g32 uns play (rd + (n - rd)) n lat gar T (caR, miR, loR, beR, fgR, fiR, uR, zR, FR) r := CR.moved hC (fun i hi => hFC.1 i (by omega)) hGC
                                            obtain ⟨vv2, hvv2⟩ : ∃ zz, zz = yIn sNl sFull sAdd uns play lat gar (T (rd + i9)) (cb, mb, lb, bb, fbb, ub9, lnb, pgb) := ⟨_, rfl⟩
                                            rw [← hvv2] at hS9
                                            obtain ⟨sc2, sm2, so2, sb2, sf2, su2, sl2, sp2⟩ := vv2
                                            have hS : SR k ad4 58 N4 g32 uns play (rd + i9) n lat gar T (sc2, sm2, so2, sb2, sf2, su2, sl2, sp2) := hS9
                                            have hNu : 58 + su2 ≤ N4 := hS.1.2
                                            refine lv_pop hx hb dL_law_809 rfl ?_
                                            refine lv_aload_n hx hb dL_law_810 rfl (lv_at hl 2 rfl) ?_
                                            refine lv_dup hx hb dL_law_811 rfl ?_
                                            refine m_stk (show ([.ref aS, .ref aS] : List Value) = [.ref (ad4 50), .ref aS] from by rw [haS]) ?_
                                            refine m_get (ci := 4) (C := RX4) (T := TX4) (N' := 14) hx hb hts inlX4 hown hE hI 50 (by omega) (show g32 50 = .inr (4, [.ref (ad4 51), .ref (ad4 52), .ref (ad4 53), .int (bI sf2), .int (bI uns), .int (nI play), .ref (ad4 54), .ref (ad4 55), .ref (ad4 56), .int (nI (rd + i9)), .int (nI sc2), .int sm2, .int so2, .int sb2]) from hS.2.1) rfl 9 (by decide) (hts (.fieldLink RL 80 "TapePrinterLaw$Sim" "reader" "I") (by decide +kernel)) rfl dL_law_812 ?_
                                            refine lv_iconst (v := nI 1) hx hb dL_law_815 (by decide) ?_
                                            refine m_iaddN hx hb dL_law_816 ?_
                                            refine m_stk (show ([.int (nI ((rd + i9) + 1)), .ref aS] : List Value) = [.int (nI ((rd + i9) + 1)), .ref (ad4 50)] from by rw [haS]) ?_
                                            refine m_put (ci := 4) (C := RX4) (T := TX4) (N' := 14) (ty := .int) hx hb hts inlX4 tyX4 tyX4_ok nmX4 hown hE hI 50 (by omega) (show g32 50 = .inr (4, [.ref (ad4 51), .ref (ad4 52), .ref (ad4 53), .int (bI sf2), .int (bI uns), .int (nI play), .ref (ad4 54), .ref (ad4 55), .ref (ad4 56), .int (nI (rd + i9)), .int (nI sc2), .int sm2, .int so2, .int sb2]) from hS.2.1) rfl 9 (by decide) (hts (.fieldLink RL 80 "TapePrinterLaw$Sim" "reader" "I") (by decide +kernel)) rfl (by decide +kernel) rfl rfl (Nat.le_of_ble_eq_true rfl) dL_law_817 (fun H locs hI => ?_)
                                            obtain ⟨g33, hg33⟩ : ∃ zz, zz = va_up g32 50 (.inr (4, [.ref (ad4 51), .ref (ad4 52), .ref (ad4 53), .int (bI sf2), .int (bI uns), .int (nI play), .ref (ad4 54), .ref (ad4 55), .ref (ad4 56), .int (nI ((rd + i9) + 1)), .int (nI sc2), .int sm2, .int so2, .int sb2])) := ⟨_, rfl⟩
                                            replace hI : mI k ad4 N4 g33 (A) s H locs := by rw [hg33]; exact hI
                                            have hS : SR k ad4 58 N4 g33 uns play ((rd + i9) + 1) n lat gar T (sc2, sm2, so2, sb2, sf2, su2, sl2, sp2) := by rw [hg33]; exact SR.obj hS
                                            have hC : CR k ad4 g33 uns play (rd + (n - rd)) n lat gar T (caR, miR, loR, beR, fgR, fiR, uR, zR, FR) r := by rw [hg33]; exact CR.kept hC (fun i hi => va_up_ne _ _ (by omega))
                                            have hF : FRA adL g29 58 ad4 g33 := by rw [hg33]; exact FRA.up hF (by omega)
                                            refine lv_goto (tgt := 787) hx hb dL_law_820 (by decide) ?_
                                            refine m_cs (c1 := c0 + 513 + 8 + 4 * (i9 + 1)) (s1 := s0 + 8649 + 48 + 70 * (i9 + 1)) (by omega) (by omega) ?_
                                            refine ih (i9 + 1, ad4, N4, g33) (by show n - (i9 + 1) < n - i9; omega) _ _ _ ⟨by show i9 + 1 ≤ n - rd; omega, hE, hI, hC, ?_, hap, haS, lv_sub hl [0, 1, 2, 3, 4, 5] rfl⟩
                                            show SR k ad4 58 N4 g33 uns play (rd + i9 + 1) n lat gar T (yIn sNl sFull sAdd uns play lat gar (T (rd + i9)) (yRun sNl sFull sAdd uns play lat gar T rd (caC, miC, loC, beC, fgC, uC, sl1, sp1) i9))
                                            rw [← hv9, ← hvv2]; exact hS
                                  · refine lv_iload hx hb dL_law_637 (lv_at hl 17 rfl) ?_
                                    refine lv_iconst (v := nI 2) hx hb dL_law_639 (by decide) ?_
                                    refine lv_ishr hx hb dL_law_640 ?_
                                    refine lv_iload hx hb dL_law_641 (lv_at hl 4 rfl) ?_
                                    refine m_callSi (As := [.int (x9 >>> ((nI 2) &&& 31)), .int (nI n)]) (rest := []) ⟨hx, hb, hml, hown, hts⟩ hE hI (c_L_below k l ad3 N3 g27 _ (x9 >>> ((nI 2) &&& 31)) n (by omega) (by omega)) (va_cwS 2 hts gL_law_L_below rfl rfl rfl (by decide +kernel) ⟨Nat.le_of_ble_eq_true rfl, Nat.le_of_ble_eq_true rfl⟩) rfl hl.1 rfl (Nat.le_of_ble_eq_true rfl) dL_law_643 ⟨(by show _ ≤ 600130; omega), (by show _ ≤ 7301080; omega)⟩ (m_deti (fun H locs hI => ?_))
                                    have hbw_5 := blw_lt (v := x9 >>> ((nI 2) &&& 31)) (b := n) (by omega)
                                    obtain ⟨pl, hpl⟩ : ∃ zz, zz = blw (x9 >>> ((nI 2) &&& 31)) n := ⟨_, rfl⟩
                                    refine m_top (show nI (blw (x9 >>> ((nI 2) &&& 31)) n) = nI pl from by rw [hpl]) ?_
                                    have hbpl : pl < n := by rw [hpl]; omega
                                    have hTp := hT pl
                                    refine lv_istore (lv' := [(22, .int (nI pl)), (21, .int miC), (20, .int (nI (idl uns T n n))), (19, .int (nI (wrN play lat gar T rd caC (n - rd)))), (18, .int (nI (n - rd))), (17, .int (nI n)), (16, .int (bI (fb uns t9 fig))), (15, .int (bI sb9)), (14, .int (bI lb9)), (13, .int (bI nw9)), (12, .int (nI ch9)), (11, .int (nI t9)), (10, .int (nI fst9)), (9, .int (nI t9)), (8, .int (nI co9)), (7, .ref aW), (6, .int (nI lst)), (5, .int (nI u)), (4, .int x9), (0, .ref b), (1, .ref ap), (2, .ref aS), (3, .int (nI t))]) hx hb dL_law_646 hl (by decide) rfl (fun ls hl => ?_)
                                    refine lv_aload_n hx hb dL_law_648 rfl (lv_at hl 20 rfl) ?_
                                    refine lv_iload hx hb dL_law_649 (lv_at hl 0 rfl) ?_
                                    refine m_stk (show ([.int (nI pl), .ref ap] : List Value) = [.int (nI pl), .ref (ad3 0)] from by rw [hap]) ?_
                                    refine m_callVn (As := [.int (nI pl)]) (rest := []) (c1 := c0 + 513 + 6) (s1 := s0 + 8649 + 36) ⟨hx, hb, hml, hown, hts⟩ hE hI (c_X3_tape k l hst ad3 N3 g27 _ uns play rd n lat gar T caC miC loC beC fgC fiC uC zC FC r (nI pl) (by omega) hW hwf (by omega) hC) (fun E h => absurd (inN_nI (n := n) (show pl < n by omega) (by omega)) (by rw [h.2]; decide)) (cwV 1 hts gL_law_X3_tape rfl rfl rfl (by decide +kernel) ⟨Nat.le_of_ble_eq_true rfl, Nat.le_of_ble_eq_true rfl⟩) (i := 0) (by omega) hC.1 rfl rfl hl.1 rfl (Nat.le_of_ble_eq_true rfl) dL_law_651 (by omega) (by omega) ⟨(by show _ ≤ 600130; omega), (by show _ ≤ 7301080; omega)⟩ (fun r9 g9 H locs hp hI => ?_)
                                    obtain ⟨_, hr9, hg9⟩ := hp
                                    rw [hg9] at hI
                                    rw [tn_nI (j := pl) (by omega)] at hr9
                                    refine m_top hr9 ?_
                                    refine lv_istore (lv' := [(23, .int (nI (T pl))), (22, .int (nI pl)), (21, .int miC), (20, .int (nI (idl uns T n n))), (19, .int (nI (wrN play lat gar T rd caC (n - rd)))), (18, .int (nI (n - rd))), (17, .int (nI n)), (16, .int (bI (fb uns t9 fig))), (15, .int (bI sb9)), (14, .int (bI lb9)), (13, .int (bI nw9)), (12, .int (nI ch9)), (11, .int (nI t9)), (10, .int (nI fst9)), (9, .int (nI t9)), (8, .int (nI co9)), (7, .ref aW), (6, .int (nI lst)), (5, .int (nI u)), (4, .int x9), (0, .ref b), (1, .ref ap), (2, .ref aS), (3, .int (nI t))]) hx hb dL_law_654 hl (by decide) rfl (fun ls hl => ?_)
                                    refine lv_aload_n hx hb dL_law_656 rfl (lv_at hl 21 rfl) ?_
                                    refine lv_iload hx hb dL_law_657 (lv_at hl 1 rfl) ?_
                                    refine m_stk (show ([.int (nI pl), .ref ap] : List Value) = [.int (nI pl), .ref (ad3 0)] from by rw [hap]) ?_
                                    refine m_callVn (As := [.int (nI pl)]) (rest := []) (c1 := c0 + 513 + 7) (s1 := s0 + 8649 + 42) ⟨hx, hb, hml, hown, hts⟩ hE hI (c_X3_rub k l hst ad3 N3 g27 _ uns play rd n lat gar T caC miC loC beC fgC fiC uC zC FC r (nI pl) (by omega) hW hwf (by omega) hC) (fun E h => absurd (inN_nI (n := n) (show pl < n by omega) (by omega)) (by rw [h.2]; decide)) (cwV 1 hts gL_law_X3_rub rfl rfl rfl (by decide +kernel) ⟨Nat.le_of_ble_eq_true rfl, Nat.le_of_ble_eq_true rfl⟩) (i := 0) (by omega) hC.1 rfl rfl hl.1 rfl (Nat.le_of_ble_eq_true rfl) dL_law_659 (by omega) (by omega) ⟨(by show _ ≤ 600130; omega), (by show _ ≤ 7301080; omega)⟩ (fun r9 g9 H locs hp hI => ?_)
                                    obtain ⟨g34, hg34⟩ : ∃ zz, zz = g9 := ⟨_, rfl⟩
                                    rw [← hg34] at hp hI
                                    obtain ⟨_, hr9, hC9, hk9⟩ := hp
                                    rw [tn_nI (j := pl) (by omega)] at hr9
                                    rw [tn_nI (j := pl) (by omega)] at hC9
                                    refine m_top hr9 ?_
                                    have hI : mI k ad3 N3 g34 (A) s H locs := hI
                                    have hC : CR k ad3 g34 uns play rd n lat gar (va_up T pl 31) (caC, miC, loC, beC, fgC, fiC, uC, zC, FC) r := hC9
                                    have hS : SR k ad3 58 N3 g34 uns play rd n lat gar T (caC, miC, loC, beC, fgC, uC, sl1, sp1) := SR.kept hS hk9
                                    have hw57 : g34 57 = .inl (k.2.1.1, 11, .inl (cntV u (sumz z fi u) fig play n rd came mis lost uns bel)) := by rw [hk9 _ (by omega)]; exact hw57
                                    have hW0 := hW
                                    have hW : CW play rd n lat gar (va_up T pl 31) := CW.rub hW (by omega)
                                    have hT2 : ∀ j, va_up T pl 31 j < 32 := hW.2.2.2.2.1
                                    refine lv_iload hx hb dL_law_662 (lv_at hl 0 rfl) ?_
                                    refine m_cneN (tgt := 722) hx hb (by omega) (by omega) dL_law_664 (by decide) (fun c_664 => ?_) (fun c_664 => ?_)
                                    · exact absurd rfl c_664
                                    · refine lv_aload_n hx hb dL_law_667 rfl (lv_at hl 21 rfl) ?_
                                      refine lv_iload hx hb dL_law_668 (lv_at hl 1 rfl) ?_
                                      refine m_stk (show ([.int (nI pl), .ref ap] : List Value) = [.int (nI pl), .ref (ad3 0)] from by rw [hap]) ?_
                                      refine m_callVn (As := [.int (nI pl)]) (rest := []) (c1 := c0 + 513 + 8) (s1 := s0 + 8649 + 48) ⟨hx, hb, hml, hown, hts⟩ hE hI (c_X3_tape k l hst ad3 N3 g34 _ uns play rd n lat gar (va_up T pl 31) caC miC loC beC fgC fiC uC zC FC r (nI pl) (by omega) hW hwf (by omega) hC) (fun E h => absurd (inN_nI (n := n) (show pl < n by omega) (by omega)) (by rw [h.2]; decide)) (cwV 1 hts gL_law_X3_tape rfl rfl rfl (by decide +kernel) ⟨Nat.le_of_ble_eq_true rfl, Nat.le_of_ble_eq_true rfl⟩) (i := 0) (by omega) hC.1 rfl rfl hl.1 rfl (Nat.le_of_ble_eq_true rfl) dL_law_670 (by omega) (by omega) ⟨(by show _ ≤ 600130; omega), (by show _ ≤ 7301080; omega)⟩ (fun r9 g9 H locs hp hI => ?_)
                                      obtain ⟨_, hr9, hg9⟩ := hp
                                      rw [hg9] at hI
                                      rw [tn_nI (j := pl) (by omega)] at hr9
                                      refine m_top hr9 ?_
                                      refine m_top (show nI ((va_up T pl 31) pl) = nI 31 from by rw [va_up_self]) ?_
                                      refine lv_bipush (v := nI 31) hx hb dL_law_673 (by decide) ?_
                                      refine m_cneN (tgt := 722) hx hb (by omega) (by omega) dL_law_675 (by decide) (fun c => absurd c (by decide)) (fun c_675 => ?_)
                                      refine lv_aload_n hx hb dL_law_678 rfl (lv_at hl 21 rfl) ?_
                                      refine lv_iload hx hb dL_law_679 (lv_at hl 1 rfl) ?_
                                      refine m_stk (show ([.int (nI pl), .ref ap] : List Value) = [.int (nI pl), .ref (ad3 0)] from by rw [hap]) ?_
                                      refine m_callVn (As := [.int (nI pl)]) (rest := []) (c1 := c0 + 513 + 9) (s1 := s0 + 8649 + 54) ⟨hx, hb, hml, hown, hts⟩ hE hI (c_X3_prints k l hst ad3 N3 g34 _ uns play rd n lat gar (va_up T pl 31) caC miC loC beC fgC fiC uC zC FC r (nI pl) (by omega) hW hwf (by omega) hC) (fun E h => absurd (inN_nI (n := n) (show pl < n by omega) (by omega)) (by rw [h.2]; decide)) (cwV 1 hts gL_law_X3_prints rfl rfl rfl (by decide +kernel) ⟨Nat.le_of_ble_eq_true rfl, Nat.le_of_ble_eq_true rfl⟩) (i := 0) (by omega) hC.1 rfl rfl hl.1 rfl (Nat.le_of_ble_eq_true rfl) dL_law_681 (by omega) (by omega) ⟨(by show _ ≤ 600130; omega), (by show _ ≤ 7301080; omega)⟩ (fun r9 g9 H locs hp hI => ?_)
                                      obtain ⟨_, hr9, hg9⟩ := hp
                                      rw [hg9] at hI
                                      rw [tn_nI (j := pl) (by omega)] at hr9
                                      refine m_top hr9 ?_
                                      refine m_top (show nI (chF ((va_up T pl 31) pl) (fa uns (va_up T pl 31) pl)) = nI 0 from by rw [va_up_self, chF_31]) ?_
                                      refine m_zneN (tgt := 722) hx hb (by omega) dL_law_684 (by decide) (fun c => absurd c (by decide)) (fun c_684 => ?_)
                                      have hfa9 : fa uns (va_up T pl 31) (pl + 1) = false := fa_31 (va_up_self _ _ _)
                                      have hlo9 := chF_lo _ (hT2 (pl + 1))
                                      have hle9 := chF_le _ (hT2 (pl + 1)) false
                                      refine m_viaC hI (c0 + 513 + 9 + 2) (s0 + 8649 + 54 + 12) 724 [] (fun K9 => ?_) (fun H locs hI => ?_)
                                      · refine lv_iload hx hb dL_law_687 (lv_at hl 1 rfl) ?_
                                        refine lv_iconst (v := nI 1) hx hb dL_law_689 (by decide) ?_
                                        refine m_iaddN hx hb dL_law_690 ?_
                                        refine lv_iload hx hb dL_law_691 (lv_at hl 6 rfl) ?_
                                        refine m_cgeN (tgt := 724) hx hb (by omega) (by omega) dL_law_693 (by decide) (fun c_693 => ?_) (fun c_693 => ?_)
                                        · refine W.widen (k := c0 + 513 + 9 + 2) (n := s0 + 8649 + 54 + 12) (by omega) (by omega) ?_
                                          exact K9 H locs hI
                                        · refine lv_aload_n hx hb dL_law_696 rfl (lv_at hl 21 rfl) ?_
                                          refine lv_iload hx hb dL_law_697 (lv_at hl 1 rfl) ?_
                                          refine lv_iconst (v := nI 1) hx hb dL_law_699 (by decide) ?_
                                          refine m_iaddN hx hb dL_law_700 ?_
                                          refine m_stk (show ([.int (nI (pl + 1)), .ref ap] : List Value) = [.int (nI (pl + 1)), .ref (ad3 0)] from by rw [hap]) ?_
                                          refine m_callVn (As := [.int (nI (pl + 1))]) (rest := []) (c1 := c0 + 513 + 10) (s1 := s0 + 8649 + 60) ⟨hx, hb, hml, hown, hts⟩ hE hI (c_X3_prints k l hst ad3 N3 g34 _ uns play rd n lat gar (va_up T pl 31) caC miC loC beC fgC fiC uC zC FC r (nI (pl + 1)) (by omega) hW hwf (by omega) hC) (fun E h => absurd (inN_nI (n := n) (show pl + 1 < n by omega) (by omega)) (by rw [h.2]; decide)) (cwV 1 hts gL_law_X3_prints rfl rfl rfl (by decide +kernel) ⟨Nat.le_of_ble_eq_true rfl, Nat.le_of_ble_eq_true rfl⟩) (i := 0) (by omega) hC.1 rfl rfl hl.1 rfl (Nat.le_of_ble_eq_true rfl) dL_law_701 (by omega) (by omega) ⟨(by show _ ≤ 600130; omega), (by show _ ≤ 7301080; omega)⟩ (fun r9 g9 H locs hp hI => ?_)
                                          obtain ⟨_, hr9, hg9⟩ := hp
                                          rw [hg9] at hI
                                          rw [tn_nI (j := pl + 1) (by omega)] at hr9
                                          refine m_top hr9 ?_
                                          refine m_top (show nI (chF ((va_up T pl 31) (pl + 1)) (fa uns (va_up T pl 31) (pl + 1))) = nI (chF (va_up T pl 31 (pl + 1)) false) from by rw [hfa9]) ?_
                                          refine lv_bipush (v := nI 26) hx hb dL_law_704 (by decide) ?_
                                          refine m_cleN (tgt := 724) hx hb (by omega) (by omega) dL_law_706 (by decide) (fun c_706 => ?_) (fun c_706 => ?_)
                                          · refine W.widen (k := c0 + 513 + 9 + 2) (n := s0 + 8649 + 54 + 12) (by omega) (by omega) ?_
                                            exact K9 H locs hI
                                          · refine lv_aload_n hx hb dL_law_709 rfl (lv_at hl 21 rfl) ?_
                                            refine lv_iload hx hb dL_law_710 (lv_at hl 1 rfl) ?_
                                            refine lv_iconst (v := nI 1) hx hb dL_law_712 (by decide) ?_
                                            refine m_iaddN hx hb dL_law_713 ?_
                                            refine m_stk (show ([.int (nI (pl + 1)), .ref ap] : List Value) = [.int (nI (pl + 1)), .ref (ad3 0)] from by rw [hap]) ?_
                                            refine m_callVn (As := [.int (nI (pl + 1))]) (rest := []) (c1 := c0 + 513 + 11) (s1 := s0 + 8649 + 66) ⟨hx, hb, hml, hown, hts⟩ hE hI (c_X3_prints k l hst ad3 N3 g34 _ uns play rd n lat gar (va_up T pl 31) caC miC loC beC fgC fiC uC zC FC r (nI (pl + 1)) (by omega) hW hwf (by omega) hC) (fun E h => absurd (inN_nI (n := n) (show pl + 1 < n by omega) (by omega)) (by rw [h.2]; decide)) (cwV 1 hts gL_law_X3_prints rfl rfl rfl (by decide +kernel) ⟨Nat.le_of_ble_eq_true rfl, Nat.le_of_ble_eq_true rfl⟩) (i := 0) (by omega) hC.1 rfl rfl hl.1 rfl (Nat.le_of_ble_eq_true rfl) dL_law_714 (by omega) (by omega) ⟨(by show _ ≤ 600130; omega), (by show _ ≤ 7301080; omega)⟩ (fun r9 g9 H locs hp hI => ?_)
                                            obtain ⟨_, hr9, hg9⟩ := hp
                                            rw [hg9] at hI
                                            rw [tn_nI (j := pl + 1) (by omega)] at hr9
                                            refine m_top hr9 ?_
                                            refine m_top (show nI (chF ((va_up T pl 31) (pl + 1)) (fa uns (va_up T pl 31) (pl + 1))) = nI (chF (va_up T pl 31 (pl + 1)) false) from by rw [hfa9]) ?_
                                            refine lv_bipush (v := nI 53) hx hb dL_law_717 (by decide) ?_
                                            refine m_cgeN (tgt := 724) hx hb (by omega) (by omega) dL_law_719 (by decide) (fun c_719 => ?_) (fun c_719 => ?_)
                                            · refine W.widen (k := c0 + 513 + 9 + 2) (n := s0 + 8649 + 54 + 12) (by omega) (by omega) ?_
                                              exact K9 H locs hI
                                            · exact (show False by omega).elim
                                      refine lv_aload_n hx hb dL_law_724 rfl (lv_at hl 22 rfl) ?_
                                      refine m_stk (show ([.ref aS] : List Value) = [.ref (ad3 50)] from by rw [haS]) ?_
                                      refine m_get (ci := 4) (C := RX4) (T := TX4) (N' := 14) hx hb hts inlX4 hown hE hI 50 (by omega) (show g34 50 = .inr (4, [.ref (ad3 51), .ref (ad3 52), .ref (ad3 53), .int (bI fgC), .int (bI uns), .int (nI play), .ref (ad3 54), .ref (ad3 55), .ref (ad3 56), .int (nI rd), .int (nI caC), .int miC, .int loC, .int beC]) from hS.2.1) rfl 8 (by decide) (hts (.fieldLink RL 19 "TapePrinterLaw$Sim" "tape" "[I") (by decide +kernel)) rfl dL_law_725 ?_
                                      refine lv_iload hx hb dL_law_728 (lv_at hl 1 rfl) ?_
                                      refine lv_bipush (v := nI 31) hx hb dL_law_730 (by decide) ?_
                                      refine m_iast hx hb hE hI 56 (by omega) (j := pl) (show g34 56 = .inl (k.2.1.1, n, .inl (fun j => nI (T j))) from hS.2.2.2.2.2.2.2.1) (by omega) (by omega) dL_law_732 (fun H locs hI => ?_)
                                      obtain ⟨g35, hg35⟩ : ∃ zz, zz = va_up g34 56 (.inl (k.2.1.1, n, .inl (upd (fun j => nI (T j)) pl (nI 31)))) := ⟨_, rfl⟩
                                      replace hI : mI k ad3 N3 g35 (A) s H locs := by rw [hg35]; exact hI
                                      rw [upd_nI] at hg35
                                      have hS : SR k ad3 58 N3 g35 uns play rd n lat gar (va_up T pl 31) (caC, miC, loC, beC, fgC, uC, sl1, sp1) := by rw [hg35]; exact SR.stap hS
                                      have hC : CR k ad3 g35 uns play rd n lat gar (va_up T pl 31) (caC, miC, loC, beC, fgC, fiC, uC, zC, FC) r := by rw [hg35]; exact CR.kept hC (fun i hi => va_up_ne _ _ (by omega))
                                      have hw57 : g35 57 = .inl (k.2.1.1, 11, .inl (cntV u (sumz z fi u) fig play n rd came mis lost uns bel)) := by rw [hg35, va_up_ne _ _ (by omega)]; exact hw57
                                      refine lv_aload_n hx hb dL_law_733 rfl (lv_at hl 21 rfl) ?_
                                      refine m_stk (show ([.ref ap] : List Value) = [.ref (ad3 0)] from by rw [hap]) ?_
                                      refine m_callVi (As := []) (rest := []) ⟨hx, hb, hml, hown, hts⟩ hE hI (c_X3_wrong k l ad3 N3 g35 _ uns play rd n lat gar (va_up T pl 31) caC miC loC beC fgC fiC uC zC FC r (by omega) hW hwf (by omega) hC) (cwV 0 hts gL_law_X3_wrong rfl rfl rfl (by decide +kernel) ⟨Nat.le_of_ble_eq_true rfl, Nat.le_of_ble_eq_true rfl⟩) (i := 0) (by omega) hC.1 rfl rfl hl.1 rfl (Nat.le_of_ble_eq_true rfl) dL_law_734 ⟨(by show _ ≤ 600130; omega), (by show _ ≤ 7301080; omega)⟩ (m_deti (fun H locs hI => ?_))
                                      refine lv_istore (lv' := [(19, .int (nI (wrN play lat gar (va_up T pl 31) rd caC (n - rd)))), (23, .int (nI (T pl))), (22, .int (nI pl)), (21, .int miC), (20, .int (nI (idl uns T n n))), (18, .int (nI (n - rd))), (17, .int (nI n)), (16, .int (bI (fb uns t9 fig))), (15, .int (bI sb9)), (14, .int (bI lb9)), (13, .int (bI nw9)), (12, .int (nI ch9)), (11, .int (nI t9)), (10, .int (nI fst9)), (9, .int (nI t9)), (8, .int (nI co9)), (7, .ref aW), (6, .int (nI lst)), (5, .int (nI u)), (4, .int x9), (0, .ref b), (1, .ref ap), (2, .ref aS), (3, .int (nI t))]) hx hb dL_law_737 hl (by decide) rfl (fun ls hl => ?_)
                                      refine lv_aload_n hx hb dL_law_739 rfl (lv_at hl 21 rfl) ?_
                                      refine lv_bipush (v := nI 120) hx hb dL_law_740 (by decide) ?_
                                      refine m_stk (show ([.int (nI 120), .ref ap] : List Value) = [.int (nI 120), .ref (ad3 0)] from by rw [hap]) ?_
                                      refine m_callVn (As := [.int (nI 120)]) (rest := []) (c1 := c0 + 513 + 9 + 3) (s1 := s0 + 8649 + 54 + 18) ⟨hx, hb, hml, hown, hts⟩ hE hI (c_X3_run k l hst ad3 N3 g35 _ uns play rd n lat gar (va_up T pl 31) caC miC loC beC fgC fiC uC zC FC r (nI 120) (by omega) hW hwf (by omega) hC) (fun E h => absurd (in120_nI 120 (by omega) (by omega)) (by rw [h.2]; decide)) (cwV 1 hts gL_law_X3_run rfl rfl rfl (by decide +kernel) ⟨Nat.le_of_ble_eq_true rfl, Nat.le_of_ble_eq_true rfl⟩) (i := 0) (by omega) hC.1 rfl rfl hl.1 rfl (Nat.le_of_ble_eq_true rfl) dL_law_742 (by omega) (by omega) ⟨(by show _ ≤ 600130; omega), (by show _ ≤ 7301080; omega)⟩ (fun r9 g9 H locs hp hI => ?_)
                                      obtain ⟨g36, hg36⟩ : ∃ zz, zz = g9 := ⟨_, rfl⟩
                                      rw [← hg36] at hp hI
                                      obtain ⟨_, hr9, hC9, hk9⟩ := hp
                                      rw [tn_nI (j := 120) (by omega)] at hr9
                                      rw [tn_nI (j := 120) (by omega)] at hC9
                                      refine m_top hr9 ?_
                                      have hI : mI k ad3 N3 g36 (A) s H locs := hI
                                      have hC : CR k ad3 g36 uns play (rd + min 120 (n - rd)) n lat gar (va_up T pl 31) (yRun cNl cFull cAdd uns play lat gar (va_up T pl 31) rd (caC, miC, loC, beC, fgC, fiC, uC, zC, FC) (min 120 (n - rd))) r := hC9
                                      have hS : SR k ad3 58 N3 g36 uns play rd n lat gar (va_up T pl 31) (caC, miC, loC, beC, fgC, uC, sl1, sp1) := SR.kept hS hk9
                                      have hw57 : g36 57 = .inl (k.2.1.1, 11, .inl (cntV u (sumz z fi u) fig play n rd came mis lost uns bel)) := by rw [hk9 _ (by omega)]; exact hw57
                                      refine m_top (show nI (min 120 (n - rd)) = nI (n - rd) from by rw [show min 120 (n - rd) = n - rd by omega]) ?_
                                      rw [show min 120 (n - rd) = n - rd by omega] at hC
                                      obtain ⟨v7, hv7⟩ : ∃ zz, zz = yRun cNl cFull cAdd uns play lat gar (va_up T pl 31) rd (caC, miC, loC, beC, fgC, fiC, uC, zC, FC) (n - rd) := ⟨_, rfl⟩
                                      rw [← hv7] at hC
                                      obtain ⟨caR, miR, loR, beR, fgR, fiR, uR, zR, FR⟩ := v7
                                      have hC : CR k ad3 g36 uns play (rd + (n - rd)) n lat gar (va_up T pl 31) (caR, miR, loR, beR, fgR, fiR, uR, zR, FR) r := hC
                                      have hca7 : caR = caC + (n - rd) := by have h1 : (caR, miR, loR, beR, fgR, fiR, uR, zR, FR).1 = _ := congrArg (fun y : YT PC => y.1) hv7; rw [yRun_1] at h1; exact h1
                                      have hmi7 : miR = miC + nI (wrN play lat gar (va_up T pl 31) rd caC (n - rd)) := by have h1 : (caR, miR, loR, beR, fgR, fiR, uR, zR, FR).2.1 = _ := congrArg (fun y : YT PC => y.2.1) hv7; rw [yRun_mis] at h1; exact h1
                                      have hwf1 := hwf
                                      have hwf : cWf (fiR, uR, zR, FR) := by have h1 : cWf (caR, miR, loR, beR, fgR, fiR, uR, zR, FR).2.2.2.2.2 := (by rw [hv7]; exact cWf_run (y := (caC, miC, loC, beC, fgC, fiC, uC, zC, FC)) hwf (n - rd)); exact h1
                                      have hW1 := hW
                                      have hW : CW play (rd + (n - rd)) n lat gar (va_up T pl 31) := CW.rd hW (by omega)
                                      refine lv_istore (lv' := [(22, .int (nI (n - rd))), (19, .int (nI (wrN play lat gar (va_up T pl 31) rd caC (n - rd)))), (23, .int (nI (T pl))), (21, .int miC), (20, .int (nI (idl uns T n n))), (18, .int (nI (n - rd))), (17, .int (nI n)), (16, .int (bI (fb uns t9 fig))), (15, .int (bI sb9)), (14, .int (bI lb9)), (13, .int (bI nw9)), (12, .int (nI ch9)), (11, .int (nI t9)), (10, .int (nI fst9)), (9, .int (nI t9)), (8, .int (nI co9)), (7, .ref aW), (6, .int (nI lst)), (5, .int (nI u)), (4, .int x9), (0, .ref b), (1, .ref ap), (2, .ref aS), (3, .int (nI t))]) hx hb dL_law_745 hl (by decide) rfl (fun ls hl => ?_)
                                      refine lv_iload hx hb dL_law_747 (lv_at hl 0 rfl) ?_
                                      refine lv_iload hx hb dL_law_749 (lv_at hl 5 rfl) ?_
                                      refine m_cneN (tgt := 785) hx hb (by omega) (by omega) dL_law_751 (by decide) (fun c_751 => ?_) (fun c_751 => ?_)
                                      · exact absurd rfl c_751
                                      · refine lv_aload_n hx hb dL_law_754 rfl (lv_at hl 21 rfl) ?_
                                        refine lv_bipush (v := nI 7) hx hb dL_law_755 (by decide) ?_
                                        refine m_stk (show ([.int (nI 7), .ref ap] : List Value) = [.int (nI 7), .ref (ad3 0)] from by rw [hap]) ?_
                                        refine m_callVn (As := [.int (nI 7)]) (rest := []) (c1 := c0 + 513 + 9 + 4) (s1 := s0 + 8649 + 54 + 24) ⟨hx, hb, hml, hown, hts⟩ hE hI (c_X3_count k l hst ad3 N3 g36 _ uns play (rd + (n - rd)) n lat gar (va_up T pl 31) caR miR loR beR fgR fiR uR zR FR r (nI 7) (by omega) hW hwf (by omega) hC) (fun E h => absurd (inN_nI (n := 11) (show 7 < 11 by omega) (by omega)) (by rw [h.2]; decide)) (cwV 1 hts gL_law_X3_count rfl rfl rfl (by decide +kernel) ⟨Nat.le_of_ble_eq_true rfl, Nat.le_of_ble_eq_true rfl⟩) (i := 0) (by omega) hC.1 rfl rfl hl.1 rfl (Nat.le_of_ble_eq_true rfl) dL_law_757 (by omega) (by omega) ⟨(by show _ ≤ 600130; omega), (by show _ ≤ 7301080; omega)⟩ (fun r9 g9 H locs hp hI => ?_)
                                        obtain ⟨_, hr9, hg9⟩ := hp
                                        rw [hg9] at hI
                                        rw [tn_nI (j := 7) (by omega)] at hr9
                                        refine m_top hr9 ?_
                                        refine m_top (show cntV uR (sumz zR fiR uR) fgR play n (rd + (n - rd)) caR miR loR uns beR 7 = miR from rfl) ?_
                                        refine lv_iload hx hb dL_law_760 (lv_at hl 3 rfl) ?_
                                        refine lv_iload hx hb dL_law_762 (lv_at hl 1 rfl) ?_
                                        refine lv_iadd hx hb dL_law_764 ?_
                                        refine lv_icmp_ne (tgt := 785) hx hb dL_law_765 (by decide) (fun c_765 => ?_) (fun c_765 => ?_)
                                        · exact absurd hmi7 c_765
                                        · refine lv_aload_n hx hb dL_law_768 rfl (lv_at hl 21 rfl) ?_
                                          refine lv_iconst (v := nI 5) hx hb dL_law_769 (by decide) ?_
                                          refine m_stk (show ([.int (nI 5), .ref ap] : List Value) = [.int (nI 5), .ref (ad3 0)] from by rw [hap]) ?_
                                          refine m_callVn (As := [.int (nI 5)]) (rest := []) (c1 := c0 + 513 + 9 + 5) (s1 := s0 + 8649 + 54 + 30) ⟨hx, hb, hml, hown, hts⟩ hE hI (c_X3_count k l hst ad3 N3 g36 _ uns play (rd + (n - rd)) n lat gar (va_up T pl 31) caR miR loR beR fgR fiR uR zR FR r (nI 5) (by omega) hW hwf (by omega) hC) (fun E h => absurd (inN_nI (n := 11) (show 5 < 11 by omega) (by omega)) (by rw [h.2]; decide)) (cwV 1 hts gL_law_X3_count rfl rfl rfl (by decide +kernel) ⟨Nat.le_of_ble_eq_true rfl, Nat.le_of_ble_eq_true rfl⟩) (i := 0) (by omega) hC.1 rfl rfl hl.1 rfl (Nat.le_of_ble_eq_true rfl) dL_law_770 (by omega) (by omega) ⟨(by show _ ≤ 600130; omega), (by show _ ≤ 7301080; omega)⟩ (fun r9 g9 H locs hp hI => ?_)
                                          obtain ⟨_, hr9, hg9⟩ := hp
                                          rw [hg9] at hI
                                          rw [tn_nI (j := 5) (by omega)] at hr9
                                          refine m_top hr9 ?_
                                          refine m_top (show cntV uR (sumz zR fiR uR) fgR play n (rd + (n - rd)) caR miR loR uns beR 5 = nI (rd + (n - rd)) from rfl) ?_
                                          refine lv_iload hx hb dL_law_773 (lv_at hl 6 rfl) ?_
                                          refine m_cneN (tgt := 785) hx hb (by omega) (by omega) dL_law_775 (by decide) (fun c_775 => ?_) (fun c_775 => ?_)
                                          · exact absurd (show rd + (n - rd) = n by omega) c_775
                                          · refine lv_aload_n hx hb dL_law_778 rfl (lv_at hl 21 rfl) ?_
                                            refine m_stk (show ([.ref ap] : List Value) = [.ref (ad3 0)] from by rw [hap]) ?_
                                            refine m_callVi (As := []) (rest := []) ⟨hx, hb, hml, hown, hts⟩ hE hI (c_X3_wrong k l ad3 N3 g36 _ uns play (rd + (n - rd)) n lat gar (va_up T pl 31) caR miR loR beR fgR fiR uR zR FR r (by omega) hW hwf (by omega) hC) (cwV 0 hts gL_law_X3_wrong rfl rfl rfl (by decide +kernel) ⟨Nat.le_of_ble_eq_true rfl, Nat.le_of_ble_eq_true rfl⟩) (i := 0) (by omega) hC.1 rfl rfl hl.1 rfl (Nat.le_of_ble_eq_true rfl) dL_law_779 ⟨(by show _ ≤ 600130; omega), (by show _ ≤ 7301080; omega)⟩ (m_deti (fun H locs hI => ?_))
                                            refine m_top (show nI (wrN play lat gar (va_up T pl 31) (rd + (n - rd)) caR (n - (rd + (n - rd)))) = nI 0 from by rw [show n - (rd + (n - rd)) = 0 by omega] <;> rfl) ?_
                                            refine m_zeqN (tgt := 787) hx hb (by omega) dL_law_782 (by decide) (fun c_782 => ?_) (fun c => absurd c (by decide))
                                            refine m_cs (c1 := c0 + 513 + 9 + 5 + 4 * 0) (s1 := s0 + 8649 + 54 + 30 + 70 * 0) (by omega) (by omega) ?_
                                            refine m_loopG (σ := Nat × (Nat → Nat) × Nat × (Nat → va_E)) (fun x H locs ls => x.1 ≤ n - rd ∧ mE k x.2.1 x.2.2.1 A s ∧ mI k x.2.1 x.2.2.1 x.2.2.2 A s H locs ∧ CR k x.2.1 x.2.2.2 uns play (rd + (n - rd)) n lat gar (va_up T pl 31) (caR, miR, loR, beR, fgR, fiR, uR, zR, FR) r ∧ SR k x.2.1 58 x.2.2.1 x.2.2.2 uns play (rd + x.1) n lat gar (va_up T pl 31) (yRun sNl sFull sAdd uns play lat gar (va_up T pl 31) rd (caC, miC, loC, beC, fgC, uC, sl1, sp1) x.1) ∧ x.2.1 0 = ap ∧ x.2.1 50 = aS ∧ lv_has ls 24 [(0, .ref b), (1, .ref ap), (2, .ref aS), (3, .int (nI t)), (4, .int x9), (17, .int (nI n))]) (fun x => n - x.1) (fun x => c0 + 513 + 9 + 5 + 4 * x.1) (fun x => s0 + 8649 + 54 + 30 + 70 * x.1) (0, ad3, N3, g36) ⟨Nat.zero_le _, hE, hI, hC, hS, hap, haS, lv_sub hl [20, 21, 22, 23, 19, 6] rfl⟩ ?_
                                            rintro ⟨i9, adL, NL, gL⟩ ih H locs ls ⟨hi9, hE, hI, hC, hS, hap, haS, hl⟩
                                            have hi9 : i9 ≤ n - rd := hi9
                                            obtain ⟨v9, hv9⟩ : ∃ zz, zz = yRun sNl sFull sAdd uns play lat gar (va_up T pl 31) rd (caC, miC, loC, beC, fgC, uC, sl1, sp1) i9 := ⟨_, rfl⟩
                                            have hS : SR k adL 58 NL gL uns play (rd + i9) n lat gar (va_up T pl 31) v9 := by rw [hv9]; exact hS
                                            have hwv9 : sWf v9.2.2.2.2.2 := by rw [hv9]; exact sWf_run (y := (caC, miC, loC, beC, fgC, uC, sl1, sp1)) hwv2 i9
                                            have hca9 : v9.1 = caC + i9 := by rw [hv9]; exact yRun_1 i9
                                            obtain ⟨cb, mb, lb, bb, fbb, ub9, lnb, pgb⟩ := v9
                                            have hcb : cb = caC + i9 := hca9
                                            have hwv : sWf (ub9, lnb, pgb) := hwv9
                                            obtain ⟨g37, hg37⟩ : ∃ zz, zz = gL := ⟨_, rfl⟩
                                            have hE : mE k adL NL A s := hE
                                            have hI : mI k adL NL g37 (A) s H locs := by rw [hg37]; exact hI
                                            have hC : CR k adL g37 uns play (rd + (n - rd)) n lat gar (va_up T pl 31) (caR, miR, loR, beR, fgR, fiR, uR, zR, FR) r := by rw [hg37]; exact hC
                                            have hS : SR k adL 58 NL g37 uns play (rd + i9) n lat gar (va_up T pl 31) (cb, mb, lb, bb, fbb, ub9, lnb, pgb) := by rw [hg37]; exact hS
                                            have hap : adL 0 = ap := hap
                                            have haS : adL 50 = aS := haS
                                            have hNu : 58 + ub9 ≤ NL := hS.1.2
                                            have hl : lv_has ls 24 [(0, .ref b), (1, .ref ap), (2, .ref aS), (3, .int (nI t)), (4, .int x9), (17, .int (nI n))] := hl
                                            show W p l e _ s m _ below meth c _ _ (c0 + 513 + 9 + 5 + 4 * i9) (s0 + 8649 + 54 + 30 + 70 * i9) _ _
                                            have hF : FRA adL g37 58 adL g37 := FRA.rf
                                            have hT8 : (va_up T pl 31) (rd + i9) < 32 := hW.2.2.2.2.1 _
                                            refine lv_aload_n hx hb dL_law_787 rfl (lv_at hl 2 rfl) ?_
                                            refine m_stk (show ([.ref aS] : List Value) = [.ref (adL 50)] from by rw [haS]) ?_
                                            refine m_get (ci := 4) (C := RX4) (T := TX4) (N' := 14) hx hb hts inlX4 hown hE hI 50 (by omega) (show g37 50 = .inr (4, [.ref (adL 51), .ref (adL 52), .ref (adL 53), .int (bI fbb), .int (bI uns), .int (nI play), .ref (adL 54), .ref (adL 55), .ref (adL 56), .int (nI (rd + i9)), .int (nI cb), .int mb, .int lb, .int bb]) from hS.2.1) rfl 9 (by decide) (hts (.fieldLink RL 80 "TapePrinterLaw$Sim" "reader" "I") (by decide +kernel)) rfl dL_law_788 ?_
                                            refine lv_iload hx hb dL_law_791 (lv_at hl 5 rfl) ?_
                                            refine m_cgeN (tgt := 823) hx hb (by omega) (by omega) dL_law_793 (by decide) (fun c_793 => ?_) (fun c_793 => ?_)
                                            · have hie : i9 = n - rd := by omega
                                              refine lv_aload_n hx hb dL_law_823 rfl (lv_at hl 1 rfl) ?_
                                              refine lv_iload hx hb dL_law_824 (lv_at hl 4 rfl) ?_
                                              refine lv_iload hx hb dL_law_826 (lv_at hl 5 rfl) ?_
                                              refine lv_iconst (v := nI 1) hx hb dL_law_828 (by decide) ?_
                                              refine m_iaddN hx hb dL_law_829 ?_
                                              refine m_callSi (As := [.int x9, .int (nI (n + 1))]) (rest := [.ref ap]) ⟨hx, hb, hml, hown, hts⟩ hE hI (c_L_below k l adL NL g37 _ x9 (n + 1) (by omega) (by omega)) (va_cwS 2 hts gL_law_L_below rfl rfl rfl (by decide +kernel) ⟨Nat.le_of_ble_eq_true rfl, Nat.le_of_ble_eq_true rfl⟩) rfl hl.1 rfl (Nat.le_of_ble_eq_true rfl) dL_law_830 ⟨(by show _ ≤ 600130; omega), (by show _ ≤ 7301080; omega)⟩ (m_deti (fun H locs hI => ?_))
                                              have hbw_6 := blw_lt (v := x9) (b := n + 1) (by omega)
                                              obtain ⟨w9, hw9⟩ : ∃ zz, zz = blw x9 (n + 1) := ⟨_, rfl⟩
                                              refine m_top (show nI (blw x9 (n + 1)) = nI w9 from by rw [hw9]) ?_
                                              have hbw9 : w9 < (n + 1) := by rw [hw9]; omega
                                              refine m_stk (show ([.int (nI w9), .ref ap] : List Value) = [.int (nI w9), .ref (adL 0)] from by rw [hap]) ?_
                                              refine m_callVn (As := [.int (nI w9)]) (rest := []) (c1 := c0 + 513 + 9 + 5 + 4 * i9 + 1) (s1 := s0 + 8649 + 54 + 30 + 70 * i9 + 6) ⟨hx, hb, hml, hown, hts⟩ hE hI (c_X3_wind k l hst adL NL g37 _ uns play (rd + (n - rd)) n lat gar (va_up T pl 31) caR miR loR beR fgR fiR uR zR FR r (nI w9) (by omega) hW hwf (by omega) hC) (fun E h => absurd (inN_nI (n := (n + 1)) (show w9 < (n + 1) by omega) (by omega)) (by rw [h.2]; decide)) (cwV 1 hts gL_law_X3_wind rfl rfl rfl (by decide +kernel) ⟨Nat.le_of_ble_eq_true rfl, Nat.le_of_ble_eq_true rfl⟩) (i := 0) (by omega) hC.1 rfl rfl hl.1 rfl (Nat.le_of_ble_eq_true rfl) dL_law_833 (by omega) (by omega) ⟨(by show _ ≤ 600130; omega), (by show _ ≤ 7301080; omega)⟩ (fun r9 g9 H locs hp hI => ?_)
                                              obtain ⟨g38, hg38⟩ : ∃ zz, zz = g9 := ⟨_, rfl⟩
                                              rw [← hg38] at hp hI
                                              obtain ⟨_, hr9, hC9, hk9⟩ := hp
                                              rw [tn_nI (j := w9) (by omega)] at hC9
                                              refine m_top hr9 ?_
                                              have hI : mI k adL NL g38 (A) s H locs := hI
                                              have hC : CR k adL g38 uns play w9 n lat gar (va_up T pl 31) (caR, miR, loR, beR, fgR, fiR, uR, zR, FR) r := hC9
                                              have hS : SR k adL 58 NL g38 uns play (rd + i9) n lat gar (va_up T pl 31) (cb, mb, lb, bb, fbb, ub9, lnb, pgb) := SR.kept hS hk9
                                              refine lv_iload hx hb dL_law_836 (lv_at hl 5 rfl) ?_
                                              refine m_ceqN (tgt := 843) hx hb (by omega) (by omega) dL_law_838 (by decide) (fun c_838 => ?_) (fun c_838 => ?_)
                                              · refine lv_aload_n hx hb dL_law_843 rfl (lv_at hl 2 rfl) ?_
                                                refine lv_iload hx hb dL_law_844 (lv_at hl 4 rfl) ?_
                                                refine lv_iload hx hb dL_law_846 (lv_at hl 5 rfl) ?_
                                                refine lv_iconst (v := nI 1) hx hb dL_law_848 (by decide) ?_
                                                refine m_iaddN hx hb dL_law_849 ?_
                                                refine m_callSi (As := [.int x9, .int (nI (n + 1))]) (rest := [.ref aS]) ⟨hx, hb, hml, hown, hts⟩ hE hI (c_L_below k l adL NL g38 _ x9 (n + 1) (by omega) (by omega)) (va_cwS 2 hts gL_law_L_below rfl rfl rfl (by decide +kernel) ⟨Nat.le_of_ble_eq_true rfl, Nat.le_of_ble_eq_true rfl⟩) rfl hl.1 rfl (Nat.le_of_ble_eq_true rfl) dL_law_850 ⟨(by show _ ≤ 600130; omega), (by show _ ≤ 7301080; omega)⟩ (m_deti (fun H locs hI => ?_))
                                                have hbw_7 := blw_lt (v := x9) (b := n + 1) (by omega)
                                                refine m_top (show nI (blw x9 (n + 1)) = nI w9 from by rw [hw9]) ?_
                                                refine m_stk (show ([.int (nI w9), .ref aS] : List Value) = [.int (nI w9), .ref (adL 50)] from by rw [haS]) ?_
                                                refine m_put (ci := 4) (C := RX4) (T := TX4) (N' := 14) (ty := .int) hx hb hts inlX4 tyX4 tyX4_ok nmX4 hown hE hI 50 (by omega) (show g38 50 = .inr (4, [.ref (adL 51), .ref (adL 52), .ref (adL 53), .int (bI fbb), .int (bI uns), .int (nI play), .ref (adL 54), .ref (adL 55), .ref (adL 56), .int (nI (rd + i9)), .int (nI cb), .int mb, .int lb, .int bb]) from hS.2.1) rfl 9 (by decide) (hts (.fieldLink RL 80 "TapePrinterLaw$Sim" "reader" "I") (by decide +kernel)) rfl (by decide +kernel) rfl rfl (Nat.le_of_ble_eq_true rfl) dL_law_853 (fun H locs hI => ?_)
                                                obtain ⟨g39, hg39⟩ : ∃ zz, zz = va_up g38 50 (.inr (4, [.ref (adL 51), .ref (adL 52), .ref (adL 53), .int (bI fbb), .int (bI uns), .int (nI play), .ref (adL 54), .ref (adL 55), .ref (adL 56), .int (nI w9), .int (nI cb), .int mb, .int lb, .int bb])) := ⟨_, rfl⟩
                                                replace hI : mI k adL NL g39 (A) s H locs := by rw [hg39]; exact hI
                                                have hS : SR k adL 58 NL g39 uns play w9 n lat gar (va_up T pl 31) (cb, mb, lb, bb, fbb, ub9, lnb, pgb) := by rw [hg39]; exact SR.obj hS
                                                have hC : CR k adL g39 uns play w9 n lat gar (va_up T pl 31) (caR, miR, loR, beR, fgR, fiR, uR, zR, FR) r := by rw [hg39]; exact CR.kept hC (fun i hi => va_up_ne _ _ (by omega))
                                                obtain ⟨adD, gD, hE, hI, hAD, hGD, hS⟩ := SR.del hE hI hS
                                                have hC : CR k adD gD uns play w9 n lat gar (va_up T pl 31) (caR, miR, loR, beR, fgR, fiR, uR, zR, FR) r := CR.moved hC (fun i hi => hAD i (by omega)) (fun i hi => hGD i (by omega))
                                                have hap : adD 0 = ap := (hAD 0 (by omega)).trans hap
                                                have haS : adD 50 = aS := (hAD 50 (by omega)).trans haS
                                                have hYR3 : YRS (caR, miR, loR, beR, fgR, fiR, uR, zR, FR) (cb, mb, lb, bb, fbb, ub9, lnb, pgb) := by rw [hv7, hv9, hie]; exact YRS_run uns play lat gar (va_up T pl 31) rd (y := (caC, miC, loC, beC, fgC, fiC, uC, zC, FC)) (v := (caC, miC, loC, beC, fgC, uC, sl1, sp1)) hwf1 hwv2 hYR2 (n - rd)
                                                refine W.widen (k := c0 + 1200) (n := s0 + 20000) (by omega) (by omega) ?_
                                                refine lv_iinc (v := nI (t + 1)) (lv' := [(3, .int (nI (t + 1))), (0, .ref b), (1, .ref ap), (2, .ref aS), (4, .int x9), (17, .int (nI n))]) hx hb dL_law_856 hl (k := 3) rfl (nI_add t 1) (by decide) rfl (fun ls hl => ?_)
                                                refine lv_goto (tgt := 22) hx hb dL_law_859 (by decide) ?_
                                                exact K adD _ gD _ _ _ hE hI ⟨uns , play , w9 , n , lat, gar, (va_up T pl 31), (caR, miR, loR, beR, fgR, fiR, uR, zR, FR), (cb, mb, lb, bb, fbb, ub9, lnb, pgb), r, hC, hS, (CW.rd hW (by omega)), hwf, hwv, hYR3, (show caR ≤ cm + 300 by omega)⟩ hap haS (lv_sub hl [1, 2, 3, 0] rfl)
                                              · exact absurd (show rd + (n - rd) = n by omega) c_838
                                            · refine lv_aload_n hx hb dL_law_796 rfl (lv_at hl 2 rfl) ?_
                                              refine lv_aload_n hx hb dL_law_797 rfl (lv_at hl 2 rfl) ?_
                                              refine m_stk (show ([.ref aS, .ref aS] : List Value) = [.ref (adL 50), .ref aS] from by rw [haS]) ?_
                                              refine m_get (ci := 4) (C := RX4) (T := TX4) (N' := 14) hx hb hts inlX4 hown hE hI 50 (by omega) (show g37 50 = .inr (4, [.ref (adL 51), .ref (adL 52), .ref (adL 53), .int (bI fbb), .int (bI uns), .int (nI play), .ref (adL 54), .ref (adL 55), .ref (adL 56), .int (nI (rd + i9)), .int (nI cb), .int mb, .int lb, .int bb]) from hS.2.1) rfl 8 (by decide) (hts (.fieldLink RL 19 "TapePrinterLaw$Sim" "tape" "[I") (by decide +kernel)) rfl dL_law_798 ?_
                                              refine lv_aload_n hx hb dL_law_801 rfl (lv_at hl 2 rfl) ?_
                                              refine m_stk (show ([.ref aS, .ref (adL 56), .ref aS] : List Value) = [.ref (adL 50), .ref (adL 56), .ref aS] from by rw [haS]) ?_
                                              refine m_get (ci := 4) (C := RX4) (T := TX4) (N' := 14) hx hb hts inlX4 hown hE hI 50 (by omega) (show g37 50 = .inr (4, [.ref (adL 51), .ref (adL 52), .ref (adL 53), .int (bI fbb), .int (bI uns), .int (nI play), .ref (adL 54), .ref (adL 55), .ref (adL 56), .int (nI (rd + i9)), .int (nI cb), .int mb, .int lb, .int bb]) from hS.2.1) rfl 9 (by decide) (hts (.fieldLink RL 80 "TapePrinterLaw$Sim" "reader" "I") (by decide +kernel)) rfl dL_law_802 ?_
                                              refine m_iald hx hb hE hI 56 (by omega) (j := rd + i9) (show g37 56 = .inl (k.2.1.1, n, .inl (fun j => nI ((va_up T pl 31) j))) from hS.2.2.2.2.2.2.2.1) (by omega) (by omega) dL_law_805 ?_
                                              refine m_top (show (fun j => nI ((va_up T pl 31) j)) (rd + i9) = nI ((va_up T pl 31) (rd + i9)) from rfl) ?_
                                              refine m_stk (show ([.int (nI ((va_up T pl 31) (rd + i9))), .ref aS] : List Value) = [.int (nI ((va_up T pl 31) (rd + i9))), .ref (adL 50)] from by rw [haS]) ?_
                                              refine m_callVgi (As := [.int (nI ((va_up T pl 31) (rd + i9)))]) (rest := []) (c1 := c0 + 513 + 9 + 5 + 4 * i9 + 4) (s1 := s0 + 8649 + 54 + 30 + 70 * i9 + 70) ⟨hx, hb, hml, hown, hts⟩ hE hI (c_X4_come k l adL NL g37 _ uns play (rd + i9) n lat gar (va_up T pl 31) cb mb lb bb fbb ub9 lnb pgb 58 ((va_up T pl 31) (rd + i9)) (hW.1) (hW.2.2.2.2.2) (hW.2.2.2.1) (by omega) (by omega) hwv hS) (cwV 1 hts gL_law_X4_come rfl rfl rfl (by decide +kernel) ⟨Nat.le_of_ble_eq_true rfl, Nat.le_of_ble_eq_true rfl⟩) (i := 50) (by omega) (show g37 50 = .inr (4, [.ref (adL 51), .ref (adL 52), .ref (adL 53), .int (bI fbb), .int (bI uns), .int (nI play), .ref (adL 54), .ref (adL 55), .ref (adL 56), .int (nI (rd + i9)), .int (nI cb), .int mb, .int lb, .int bb]) from hS.2.1) rfl rfl hl.1 rfl (Nat.le_of_ble_eq_true rfl) dL_law_806 (by omega) (by omega) ⟨(by show _ ≤ 600130; omega), (by show _ ≤ 7301080; omega)⟩ (fun r9 ad5 N5 g9 H locs hp hE hI => ?_)
                                              obtain ⟨g40, hg40⟩ : ∃ zz, zz = g9 := ⟨_, rfl⟩
                                              rw [← hg40] at hp hI
                                              obtain ⟨hr9, hFC, hGC, hS9⟩ := hp
                                              subst hr9
                                              have hE : mE k ad5 N5 (A) s := hE
                                              have hI : mI k ad5 N5 g40 (A) s H locs := hI
                                              have hap : ad5 0 = ap := (hFC.1 0 (by omega)).trans hap
                                              have haS : ad5 50 = aS := (hFC.1 50 (by omega)).trans haS
                                              have hF : FRA adL g37 58 ad5 g40 := FRA.go hF hFC
                                              have hC : CR k ad5 g40 uns play (rd + (n - rd)) n lat gar (va_up T pl 31) (caR, miR, loR, beR, fgR, fiR, uR, zR, FR) r := CR.moved hC (fun i hi => hFC.1 i (by omega)) hGC
                                              obtain ⟨vv2, hvv2⟩ : ∃ zz, zz = yIn sNl sFull sAdd uns play lat gar ((va_up T pl 31) (rd + i9)) (cb, mb, lb, bb, fbb, ub9, lnb, pgb) := ⟨_, rfl⟩
                                              rw [← hvv2] at hS9
                                              obtain ⟨sc2, sm2, so2, sb2, sf2, su2, sl2, sp2⟩ := vv2
                                              have hS : SR k ad5 58 N5 g40 uns play (rd + i9) n lat gar (va_up T pl 31) (sc2, sm2, so2, sb2, sf2, su2, sl2, sp2) := hS9
                                              have hNu : 58 + su2 ≤ N5 := hS.1.2
                                              refine lv_pop hx hb dL_law_809 rfl ?_
                                              refine lv_aload_n hx hb dL_law_810 rfl (lv_at hl 2 rfl) ?_
                                              refine lv_dup hx hb dL_law_811 rfl ?_
                                              refine m_stk (show ([.ref aS, .ref aS] : List Value) = [.ref (ad5 50), .ref aS] from by rw [haS]) ?_
                                              refine m_get (ci := 4) (C := RX4) (T := TX4) (N' := 14) hx hb hts inlX4 hown hE hI 50 (by omega) (show g40 50 = .inr (4, [.ref (ad5 51), .ref (ad5 52), .ref (ad5 53), .int (bI sf2), .int (bI uns), .int (nI play), .ref (ad5 54), .ref (ad5 55), .ref (ad5 56), .int (nI (rd + i9)), .int (nI sc2), .int sm2, .int so2, .int sb2]) from hS.2.1) rfl 9 (by decide) (hts (.fieldLink RL 80 "TapePrinterLaw$Sim" "reader" "I") (by decide +kernel)) rfl dL_law_812 ?_
                                              refine lv_iconst (v := nI 1) hx hb dL_law_815 (by decide) ?_
                                              refine m_iaddN hx hb dL_law_816 ?_
                                              refine m_stk (show ([.int (nI ((rd + i9) + 1)), .ref aS] : List Value) = [.int (nI ((rd + i9) + 1)), .ref (ad5 50)] from by rw [haS]) ?_
                                              refine m_put (ci := 4) (C := RX4) (T := TX4) (N' := 14) (ty := .int) hx hb hts inlX4 tyX4 tyX4_ok nmX4 hown hE hI 50 (by omega) (show g40 50 = .inr (4, [.ref (ad5 51), .ref (ad5 52), .ref (ad5 53), .int (bI sf2), .int (bI uns), .int (nI play), .ref (ad5 54), .ref (ad5 55), .ref (ad5 56), .int (nI (rd + i9)), .int (nI sc2), .int sm2, .int so2, .int sb2]) from hS.2.1) rfl 9 (by decide) (hts (.fieldLink RL 80 "TapePrinterLaw$Sim" "reader" "I") (by decide +kernel)) rfl (by decide +kernel) rfl rfl (Nat.le_of_ble_eq_true rfl) dL_law_817 (fun H locs hI => ?_)
                                              obtain ⟨g41, hg41⟩ : ∃ zz, zz = va_up g40 50 (.inr (4, [.ref (ad5 51), .ref (ad5 52), .ref (ad5 53), .int (bI sf2), .int (bI uns), .int (nI play), .ref (ad5 54), .ref (ad5 55), .ref (ad5 56), .int (nI ((rd + i9) + 1)), .int (nI sc2), .int sm2, .int so2, .int sb2])) := ⟨_, rfl⟩
                                              replace hI : mI k ad5 N5 g41 (A) s H locs := by rw [hg41]; exact hI
                                              have hS : SR k ad5 58 N5 g41 uns play ((rd + i9) + 1) n lat gar (va_up T pl 31) (sc2, sm2, so2, sb2, sf2, su2, sl2, sp2) := by rw [hg41]; exact SR.obj hS
                                              have hC : CR k ad5 g41 uns play (rd + (n - rd)) n lat gar (va_up T pl 31) (caR, miR, loR, beR, fgR, fiR, uR, zR, FR) r := by rw [hg41]; exact CR.kept hC (fun i hi => va_up_ne _ _ (by omega))
                                              have hF : FRA adL g37 58 ad5 g41 := by rw [hg41]; exact FRA.up hF (by omega)
                                              refine lv_goto (tgt := 787) hx hb dL_law_820 (by decide) ?_
                                              refine m_cs (c1 := c0 + 513 + 9 + 5 + 4 * (i9 + 1)) (s1 := s0 + 8649 + 54 + 30 + 70 * (i9 + 1)) (by omega) (by omega) ?_
                                              refine ih (i9 + 1, ad5, N5, g41) (by show n - (i9 + 1) < n - i9; omega) _ _ _ ⟨by show i9 + 1 ≤ n - rd; omega, hE, hI, hC, ?_, hap, haS, lv_sub hl [0, 1, 2, 3, 4, 5] rfl⟩
                                              show SR k ad5 58 N5 g41 uns play (rd + i9 + 1) n lat gar (va_up T pl 31) (yIn sNl sFull sAdd uns play lat gar ((va_up T pl 31) (rd + i9)) (yRun sNl sFull sAdd uns play lat gar (va_up T pl 31) rd (caC, miC, loC, beC, fgC, uC, sl1, sp1) i9))
                                              rw [← hv9, ← hvv2]; exact hS
                                · exact (show False by omega).elim
                          · exact absurd q5 c_557
                      · exact absurd (by omega) c_437
                    · exact absurd q4 c_393
              · exact absurd rfl c_229
  · refine lv_aload hx hb dL_law_96 (lv_at hl 0 rfl) ?_
    refine lv_iload hx hb dL_law_98 (lv_at hl 8 rfl) ?_
    refine lv_aload_n hx hb dL_law_100 rfl (lv_at hl 5 rfl) ?_
    refine lv_iload hx hb dL_law_101 (lv_at hl 8 rfl) ?_
    refine m_stk (show ([.int (nI k9), .ref ap, .int (nI k9), .ref aW] : List Value) = [.int (nI k9), .ref (adI 0), .int (nI k9), .ref aW] from by rw [hap]) ?_
    refine m_callVn (As := [.int (nI k9)]) (rest := [.int (nI k9), .ref aW]) (c1 := c0 + 484 + k9 + 1) (s1 := s0 + 8429 + 6 * k9 + 6) ⟨hx, hb, hml, hown, hts⟩ hE hI (c_X3_count k l hst adI (58 + u) g24 _ uns play rd n lat gar T came mis lost bel fig fi u z F r (nI k9) (by omega) hW hwf (by omega) hC) (fun E h => absurd (inN_nI (n := 11) (show k9 < 11 by omega) (by omega)) (by rw [h.2]; decide)) (cwV 1 hts gL_law_X3_count rfl rfl rfl (by decide +kernel) ⟨Nat.le_of_ble_eq_true rfl, Nat.le_of_ble_eq_true rfl⟩) (i := 0) (by omega) hC.1 rfl rfl hl.1 rfl (Nat.le_of_ble_eq_true rfl) dL_law_103 (by omega) (by omega) ⟨(by show _ ≤ 600130; omega), (by show _ ≤ 7301080; omega)⟩ (fun r9 g9 H locs hp hI => ?_)
    obtain ⟨_, hr9, hg9⟩ := hp
    rw [hg9] at hI
    rw [tn_nI (j := k9) (by omega)] at hr9
    refine m_top hr9 ?_
    refine m_stk (show ([.int (cntV u (sumz z fi u) fig play n rd came mis lost uns bel k9), .int (nI k9), .ref aW] : List Value) = [.int (cntV u (sumz z fi u) fig play n rd came mis lost uns bel k9), .int (nI k9), .ref (adI 57)] from by rw [haW]) ?_
    refine m_iast hx hb hE hI 57 (by omega) (j := k9) hw57 (by omega) (by omega) dL_law_106 (fun H locs hI => ?_)
    obtain ⟨g42, hg42⟩ : ∃ zz, zz = va_up g24 57 (.inl (k.2.1.1, 11, .inl (upd (fun q => if q < k9 then cntV u (sumz z fi u) fig play n rd came mis lost uns bel q else nI 0) k9 (cntV u (sumz z fi u) fig play n rd came mis lost uns bel k9)))) := ⟨_, rfl⟩
    replace hI : mI k adI (58 + u) g42 (A) s H locs := by rw [hg42]; exact hI
    have hS : SR k adI 58 (58 + u) g42 uns play rd n lat gar T (came, mis, lost, bel, fig, u, ln, pg) := by rw [hg42]; exact SR.offx hS (by omega) (by omega)
    have hC : CR k adI g42 uns play rd n lat gar T (came, mis, lost, bel, fig, fi, u, z, F) r := by rw [hg42]; exact CR.kept hC (fun i hi => va_up_ne _ _ (by omega))
    have hw57 : g42 57 = .inl (k.2.1.1, 11, .inl (upd (fun q => if q < k9 then cntV u (sumz z fi u) fig play n rd came mis lost uns bel q else nI 0) k9 (cntV u (sumz z fi u) fig play n rd came mis lost uns bel k9))) := by rw [hg42, va_up_self]
    refine lv_iinc (v := nI (k9 + 1)) (lv' := [(8, .int (nI (k9 + 1))), (7, .ref aW), (6, .int (nI lst)), (5, .int (nI u)), (4, .int x9), (0, .ref b), (1, .ref ap), (2, .ref aS), (3, .int (nI t))]) hx hb dL_law_107 hl (k := 8) rfl (nI_add k9 1) (by decide) rfl (fun ls hl => ?_)
    refine lv_goto (tgt := 89) hx hb dL_law_110 (by decide) ?_
    rw [show upd (fun q => if q < k9 then cntV u (sumz z fi u) fig play n rd came mis lost uns bel q else nI 0) k9 (cntV u (sumz z fi u) fig play n rd came mis lost uns bel k9) = fun q => if q < k9 + 1 then cntV u (sumz z fi u) fig play n rd came mis lost uns bel q else nI 0 from mor_up (cntV u (sumz z fi u) fig play n rd came mis lost uns bel) k9 (nI 0)] at hw57
    refine m_cs (c1 := c0 + 484 + (k9 + 1)) (s1 := s0 + 8429 + 6 * (k9 + 1)) (by omega) (by omega) ?_
    exact ih (k9 + 1, g42) (by show 11 - (k9 + 1) < 11 - k9; omega) _ _ _ ⟨(show k9 + 1 ≤ 11 by omega), hI, hC, hS, hw57, lv_sub hl [1, 2, 3, 4, 5, 6, 7, 8, 0] rfl⟩
