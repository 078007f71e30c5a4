/-! The printer that cells choose. -/
set_option maxHeartbeats 8000000 in
set_option maxRecDepth 100000 in
theorem c_L_build (k : mC) (l : Launch) (ad : Nat → Nat) (N : Nat) (g : Nat → va_E) (sz : Nat) (b L : Nat) (xs : Nat → Int32) (r : Nat → Option Nat) (hst : l.stackTraces = false) (hN : N = 50) (hL : L ≤ 260) (hC0 : CR k ad g false 0 0 0 (fun _ => nI 0) (fun _ => 0) (fun _ => 0) (0, nI 0, nI 0, nI 0, false, 0, 1, (fun _ => 0), (fun _ _ => 0)) r) : Met l yL_build wsL_build { frames := 8, cells := 19250, slots := 336461, locals := 166 } (mPs k ad N g sz b L xs [.ref (ad 0), .ref b]) (va_Qq (S := mU) (fun r w9 => (fun (r : Option Nat) (ad1 : Nat → Nat) (N1 : Nat) (g1 : Nat → va_E) => r = some (ad1 50) ∧ (∀ i, i < 50 → ad1 i = ad i) ∧ ST k ad1 57 N1 g1 4800) r w9.1 w9.2.1 w9.2.2) (mBg k (mA ad N sz)) (mA ad N sz)) 19250 336461 (mA ad N sz) := by
  show Met l yL_build wsL_build { frames := 8, cells := 19250, slots := 336461, locals := 166 } (mPs k ad N g sz b L xs [.ref (ad 0), .ref b]) (va_Qq (S := mU) (fun r w9 => (fun (r : Option Nat) (ad1 : Nat → Nat) (N1 : Nat) (g1 : Nat → va_E) => r = some (ad1 50) ∧ (∀ i, i < 50 → ad1 i = ad i) ∧ ST k ad1 57 N1 g1 4800) r w9.1 w9.2.1 w9.2.2) (mBg k (mA ad N sz)) (mA ad N sz)) 19250 336461 (mA ad N sz)
  refine mOfS (Qc := fun z9 => va_Qq (S := mU) (fun r w9 => (fun (r : Option Nat) (ad1 : Nat → Nat) (N1 : Nat) (g1 : Nat → va_E) => r = some (ad1 50) ∧ (∀ i, i < 50 → ad1 i = ad i) ∧ ST k ad1 57 N1 g1 4800) r w9.1 w9.2.1 w9.2.2) (mBg k (mA ad N z9)) (mA ad N z9)) (cc := cL_build) (maxL := 4) (ret := (some (.object "TapePrinterLaw$Sim"))) (by decide) rfl (Nat.le_of_ble_eq_true rfl) ?_
  intro p e s m below meth c hx hb hr hts hown hlocks hml hX hbl hAb H locs hH hE hI ls hl
  have hl : lv_has ls 4 [(0, .ref (ad 0)), (1, .ref b)] := hl
  subst hN
  have hA0 : ∀ i, i < 50 → ad i = ad i := fun _ _ => rfl
  obtain ⟨ap, hap⟩ : ∃ zz, ad 0 = zz := ⟨_, rfl⟩
  have hl : lv_has ls 4 [(0, .ref ap), (1, .ref b)] := by rw [← hap]; exact hl
  refine m_new (ci := 4) (C := RX4) (T := TX4) (N' := 14) (fs := [.null, .null, .null, .int (bI false), .int (bI false), .int (nI 0), .null, .null, .null, .int (nI 0), .int (nI 0), .int (nI 0), .int (nI 0), .int (nI 0)]) (c1 := 1) (s1 := 14) hx hb hts (by decide +kernel) tyX4 tyX4_ok hown (hts (.classLink RL 20 RX4) (by decide +kernel)) (hts (.instantiable RX4 14) (by decide +kernel)) (hts (.initialized RX4) (by decide +kernel)) hE hI rfl (fun j hj => by have h9 : j = 0 ∨ j = 1 ∨ j = 2 ∨ j = 3 ∨ j = 4 ∨ j = 5 ∨ j = 6 ∨ j = 7 ∨ j = 8 ∨ j = 9 ∨ j = 10 ∨ j = 11 ∨ j = 12 ∨ j = 13 := (by omega); rcases h9 with rfl | rfl | rfl | rfl | rfl | rfl | rfl | rfl | rfl | rfl | rfl | rfl | rfl | rfl <;> rfl) (by omega) (by omega) (by show _ ≤ 19250; omega) (by show _ ≤ 336461; omega) dL_build_0 (fun ad1 H hag1 hE hI => ?_)
  obtain ⟨g1, hg1⟩ : ∃ zz, zz = va_up g 50 (.inr (4, [.null, .null, .null, .int (bI false), .int (bI false), .int (nI 0), .null, .null, .null, .int (nI 0), .int (nI 0), .int (nI 0), .int (nI 0), .int (nI 0)])) := ⟨_, rfl⟩
  have hE : mE k ad1 51 (mA ad 50 s.heap.size) s := hE
  replace hI : mI k ad1 51 g1 (mA ad 50 s.heap.size) s H locs := by rw [hg1]; exact hI
  have h50 : g1 50 = .inr (4, [.null, .null, .null, .int (bI false), .int (bI false), .int (nI 0), .null, .null, .null, .int (nI 0), .int (nI 0), .int (nI 0), .int (nI 0), .int (nI 0)]) := by rw [hg1, va_up_self]
  have hC : CR k ad1 g1 false 0 0 0 (fun _ => nI 0) (fun _ => 0) (fun _ => 0) (0, nI 0, nI 0, nI 0, false, 0, 1, (fun _ => 0), (fun _ _ => 0)) r := CR.moved hC0 (fun i hi => hag1 i (by omega)) (fun i hi => by rw [hg1, va_up_ne _ _ (by omega)])
  have hA0 : ∀ i, i < 50 → ad1 i = ad i := hag1
  have hap : ad1 0 = ap := (hag1 0 (by omega)).trans hap
  refine lv_dup hx hb dL_build_3 rfl ?_
  refine m_callINgv (As := []) (rest := [.ref (ad1 50)]) (c1 := 10) (s1 := 221) ⟨hx, hb, hml, hown, hts⟩ hE hI (i := 50) (c_X4_init k l ad1 51 g1 _ rfl h50) ⟨va_cnB 0 hts gL_build_X4_init_n89 rfl rfl rfl hE.1.2.2.2.2.2.2.2.2.2 (hts (.initialized RX4) (by decide +kernel)) (by decide +kernel) ⟨Nat.le_of_ble_eq_true rfl, Nat.le_of_ble_eq_true rfl⟩, rfl, hts (.instanceMethod yX4_init) (by decide +kernel)⟩ rfl hl.1 rfl (Nat.le_of_ble_eq_true rfl) dL_build_4 (by omega) (by omega) ⟨(by show _ ≤ 19250; omega), (by show _ ≤ 336461; omega)⟩ (fun ad2 N2 g9 H locs hp hE hI => ?_)
  obtain ⟨g2, hg2⟩ : ∃ zz, zz = g9 := ⟨_, rfl⟩
  rw [← hg2] at hp hI
  obtain ⟨hA9, hG9, hN9, hS⟩ := hp
  subst hN9
  have hE : mE k ad2 58 (mA ad 50 s.heap.size) s := hE
  have hI : mI k ad2 58 g2 (mA ad 50 s.heap.size) s H locs := hI
  have hC : CR k ad2 g2 false 0 0 0 (fun _ => nI 0) (fun _ => 0) (fun _ => 0) (0, nI 0, nI 0, nI 0, false, 0, 1, (fun _ => 0), (fun _ _ => 0)) r := CR.moved hC (fun i hi => hA9 i (by omega)) hG9
  have hap : ad2 0 = ap := (hA9 0 (by omega)).trans hap
  have hA0 : ∀ i, i < 50 → ad2 i = ad i := fun i hi => (hA9 i (by omega)).trans (hA0 i hi)
  obtain ⟨aS, haS⟩ : ∃ zz, ad2 50 = zz := ⟨_, rfl⟩
  refine m_stk (show ([.ref (ad1 50)] : List Value) = [.ref aS] from by rw [← haS, hA9 50 (by omega)]) ?_
  have hST : ST k ad2 57 58 g2 (120 * 0) := ⟨false, 0, 0, 0, _, _, _, _, _, r, hC, hS, ⟨by omega, by omega, by omega, fun _ _ => (by decide : (0 : Nat) < 32), fun _ => (by decide : (0 : Nat) < 32), fun _ => (by decide : -9 ≤ nI 0 ∧ nI 0 ≤ 9)⟩, ⟨by decide, by decide, by decide⟩, ⟨by decide, by decide, fun _ _ => Nat.zero_le _⟩, ⟨rfl, rfl, rfl, rfl, rfl, rfl, fun _ _ => rfl, fun _ _ i hi => absurd hi (Nat.not_lt_zero _)⟩, Nat.le_refl _⟩
  refine lv_astore_n (lv' := [(2, .ref aS), (0, .ref ap), (1, .ref b)]) hx hb dL_build_7 rfl hl (by decide) rfl (fun ls hl => ?_)
  refine lv_iconst (v := nI 0) hx hb dL_build_8 (by decide) ?_
  refine lv_istore_n (lv' := [(3, .int (nI 0)), (2, .ref aS), (0, .ref ap), (1, .ref b)]) hx hb dL_build_9 rfl hl (by decide) rfl (fun ls hl => ?_)
  refine m_loopG (σ := Nat × (Nat → Nat) × Nat × (Nat → va_E)) (fun x H locs ls => x.1 ≤ 40 ∧ mE k x.2.1 x.2.2.1 (mA ad 50 s.heap.size) s ∧ mI k x.2.1 x.2.2.1 x.2.2.2 (mA ad 50 s.heap.size) s H locs ∧ (∀ i, i < 50 → x.2.1 i = ad i) ∧ ST k x.2.1 57 x.2.2.1 x.2.2.2 (120 * x.1) ∧ x.2.1 0 = ap ∧ x.2.1 50 = aS ∧ lv_has ls 4 [(0, .ref ap), (1, .ref b), (2, .ref aS), (3, .int (nI x.1))]) (fun x => 40 - x.1) (fun x => 10 + 481 * x.1) (fun x => 221 + 8406 * x.1) (0, ad2, 58, g2) ⟨Nat.zero_le _, hE, hI, hA0, hST, hap, haS, lv_sub hl [2, 3, 1, 0] rfl⟩ ?_
  rintro ⟨i9, adL, NL, gL⟩ ih H locs ls ⟨hi9, hE, hI, hA0, hST, hap, haS, hl⟩
  have hi9 : i9 ≤ 40 := hi9
  obtain ⟨g3, hg3⟩ : ∃ zz, zz = gL := ⟨_, rfl⟩
  have hE : mE k adL NL (mA ad 50 s.heap.size) s := hE
  have hI : mI k adL NL g3 (mA ad 50 s.heap.size) s H locs := by rw [hg3]; exact hI
  have hST : ST k adL 57 NL g3 (120 * i9) := by rw [hg3]; exact hST
  have hA0 : ∀ i, i < 50 → adL i = ad i := hA0
  have hap : adL 0 = ap := hap
  have haS : adL 50 = aS := haS
  have hl : lv_has ls 4 [(0, .ref ap), (1, .ref b), (2, .ref aS), (3, .int (nI i9))] := hl
  show W p l e _ s m _ below meth c _ _ (10 + 481 * i9) (221 + 8406 * i9) _ _
  have hN50 : 50 < NL := by obtain ⟨_, _, _, _, _, _, _, _, _, _, _, hSR, _⟩ := hST; have h1 := hSR.1; omega
  refine lv_iload_n hx hb dL_build_10 rfl (lv_at hl 3 rfl) ?_
  refine lv_bipush (v := nI 40) hx hb dL_build_11 (by decide) ?_
  refine m_cgeN (tgt := 53) hx hb (by omega) (by omega) dL_build_13 (by decide) (fun c_13 => ?_) (fun c_13 => ?_)
  · refine lv_aload_n hx hb dL_build_53 rfl (lv_at hl 2 rfl) ?_
    refine m_stk (show ([.ref aS] : List Value) = [.ref (adL 50)] from by rw [haS]) ?_
    exact m_gqret hx hb hr (Or.inl ⟨_, rfl⟩) hlocks hE hI (post := fun (r : Option Nat) (ad1 : Nat → Nat) (N1 : Nat) (g1 : Nat → va_E) => r = some (ad1 50) ∧ (∀ i, i < 50 → ad1 i = ad i) ∧ ST k ad1 57 N1 g1 4800) (v := adL 50) (⟨rfl, hA0, ST.le hST (by omega)⟩) (by omega) (by omega) dL_build_54
  · refine lv_aload_n hx hb dL_build_16 rfl (lv_at hl 0 rfl) ?_
    refine lv_aload_n hx hb dL_build_17 rfl (lv_at hl 2 rfl) ?_
    refine lv_aload_n hx hb dL_build_18 rfl (lv_at hl 1 rfl) ?_
    refine lv_iload_n hx hb dL_build_19 rfl (lv_at hl 3 rfl) ?_
    refine lv_bipush (v := nI 16) hx hb dL_build_20 (by decide) ?_
    refine m_iremN hx hb (by omega) (by omega) (by omega) dL_build_22 ?_
    refine m_callSxi (As := [.ref b, .int (nI (i9 % 16))]) (rest := [.ref aS, .ref ap]) hX hbl hAb ⟨hx, hb, hml, hown, hts⟩ hE hI (c_L_cell k l adL NL g3 _ b L xs (i9 % 16) (by omega) (by omega)) (va_cwS 2 hts gL_build_L_cell rfl rfl rfl (by decide +kernel) ⟨Nat.le_of_ble_eq_true rfl, Nat.le_of_ble_eq_true rfl⟩) rfl hl.1 rfl (Nat.le_of_ble_eq_true rfl) dL_build_23 ⟨(by show _ ≤ 19250; omega), (by show _ ≤ 336461; omega)⟩ (m_deti (fun H locs hI => ?_))
    refine lv_iload_n hx hb dL_build_26 rfl (lv_at hl 3 rfl) ?_
    refine lv_bipush (v := nI 16) hx hb dL_build_27 (by decide) ?_
    refine lv_idiv hx hb dL_build_29 (nI_ne0 (by omega) (by omega)) ?_
    refine m_top (show nI i9 / nI 16 = nI (i9 / 16) from pk_div (by omega) (by omega) (by omega)) ?_
    refine lv_iconst (v := nI 4) hx hb dL_build_30 (by decide) ?_
    refine m_imulN hx hb dL_build_31 ?_
    refine lv_ishr hx hb dL_build_32 ?_
    refine lv_sipush (v := nI 277) hx hb dL_build_33 (by decide) ?_
    refine lv_iload_n hx hb dL_build_36 rfl (lv_at hl 3 rfl) ?_
    refine m_imulN hx hb dL_build_37 ?_
    refine lv_iadd hx hb dL_build_38 ?_
    refine m_stk (show ([.int (((cel xs L (i9 % 16)) >>> ((nI ((i9 / 16) * 4)) &&& 31)) + (nI (277 * i9))), .ref aS, .ref ap] : List Value) = [.int (((cel xs L (i9 % 16)) >>> ((nI ((i9 / 16) * 4)) &&& 31)) + (nI (277 * i9))), .ref (adL 50), .ref (adL 0)] from by rw [haS, hap]) ?_
    refine m_callSgi (As := [.ref (adL 0), .ref (adL 50), .int (((cel xs L (i9 % 16)) >>> ((nI ((i9 / 16) * 4)) &&& 31)) + (nI (277 * i9)))]) (rest := []) (c1 := 10 + 481 * i9 + 481) (s1 := 221 + 8406 * i9 + 8406) ⟨hx, hb, hml, hown, hts⟩ hE hI (c_L_act k l adL NL g3 _ 57 (120 * i9) (((cel xs L (i9 % 16)) >>> ((nI ((i9 / 16) * 4)) &&& 31)) + (nI (277 * i9))) hst (by omega) hST) (va_cwS 3 hts gL_build_L_act rfl rfl rfl (by decide +kernel) ⟨Nat.le_of_ble_eq_true rfl, Nat.le_of_ble_eq_true rfl⟩) rfl hl.1 rfl (Nat.le_of_ble_eq_true rfl) dL_build_39 (by omega) (by omega) ⟨(by show _ ≤ 19250; omega), (by show _ ≤ 336461; omega)⟩ (fun r9 ad3 N3 g9 H locs hp hE hI => ?_)
    obtain ⟨g4, hg4⟩ : ∃ zz, zz = g9 := ⟨_, rfl⟩
    rw [← hg4] at hp hI
    obtain ⟨hr9, hFA, hST⟩ := hp
    subst hr9
    have hE : mE k ad3 N3 (mA ad 50 s.heap.size) s := hE
    have hI : mI k ad3 N3 g4 (mA ad 50 s.heap.size) s H locs := hI
    have hap : ad3 0 = ap := (hFA.1 0 (by omega)).trans hap
    have haS : ad3 50 = aS := (hFA.1 50 (by omega)).trans haS
    have hA0 : ∀ i, i < 50 → ad3 i = ad i := fun i hi => (hFA.1 i (by omega)).trans (hA0 i hi)
    refine m_zneB (tgt := 47) hx hb dL_build_42 (by decide) (fun c_42 => ?_) (fun c => absurd c (by decide))
    refine lv_iinc (v := nI (i9 + 1)) (lv' := [(3, .int (nI (i9 + 1))), (0, .ref ap), (1, .ref b), (2, .ref aS)]) hx hb dL_build_47 hl (k := 3) rfl (nI_add i9 1) (by decide) rfl (fun ls hl => ?_)
    refine lv_goto (tgt := 10) hx hb dL_build_50 (by decide) ?_
    refine m_cs (c1 := 10 + 481 * (i9 + 1)) (s1 := 221 + 8406 * (i9 + 1)) (by omega) (by omega) ?_
    exact ih (i9 + 1, ad3, N3, g4) (by show 40 - (i9 + 1) < 40 - i9; omega) _ _ _ ⟨(show i9 + 1 ≤ 40 by omega), hE, hI, hA0, (show ST k ad3 57 N3 g4 (120 * (i9 + 1)) from ST.le hST (by omega)), hap, haS, lv_sub hl [1, 2, 3, 0] rfl⟩
