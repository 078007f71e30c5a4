/-! Constructors of the class. -/
set_option maxHeartbeats 8000000 in
set_option maxRecDepth 100000 in
theorem c_X0_init (k : mC) (l : Launch) (ad0 : Nat → Nat) (N : Nat) (g : Nat → va_E) (sz : Nat) (i0 n : Nat) (hi0 : i0 < N) (hn : n ≤ 2000) (h0 : g i0 = .inr (0, [.null, .int (nI 0)])) : mCn k l yX0_init wsX0_init { frames := 1, cells := 1, slots := n, locals := 40 } ad0 N g sz (N + 1) 1 n [.ref (ad0 i0), .int (nI n)] (fun ad1 g1 => g1 = va_up (va_up g N (.inl (k.2.1.1, n, .inl (fun _ => nI 0)))) i0 (.inr (0, [.ref (ad1 N), .int (nI 0)]))) := by
  refine mOfN (cc := cX0_init) (maxL := 2) (ret := none) (by decide) rfl (Nat.le_of_ble_eq_true rfl) ?_
  intro p e s m below meth c hx hb hr hts hown hlocks hml hin hao locs hE hI ls hl
  have hl : lv_has ls 2 [(0, .ref (ad0 i0)), (1, .int (nI n))] := hl
  refine lv_aload_n hx hb dX0_init_0 rfl (lv_at hl 0 rfl) ?_
  refine W.objInit hx hb hown (hts (.methodLink RX0 1 objectInit) (by decide +kernel)) (hts (.instanceMethod objectInit) (by decide +kernel)) (hts (.code objectInit ⟨#[0xb1]⟩ 1 none) (by decide +kernel)) rfl (hl.1.trans hml.symm) rfl dX0_init_1 (Nat.le_of_ble_eq_true rfl) (Nat.le_of_ble_eq_true rfl) ?_
  show W p l e _ s m _ below meth c _ _ _ _ _ (F0 m 4 ls [])
  refine lv_aload_n hx hb dX0_init_4 rfl (lv_at hl 0 rfl) ?_
  refine lv_iload_n hx hb dX0_init_5 rfl (lv_at hl 1 rfl) ?_
  refine m_zgeN (tgt := 13) hx hb (by omega) dX0_init_6 (by decide) ?_
  refine lv_iload_n hx hb dX0_init_13 rfl (lv_at hl 1 rfl) ?_
  refine m_newi (n := n) (c1 := 1) (s1 := n) hx hb (hts (.arrayClass .int) (by decide +kernel)) hE hI (by omega) (by omega) (by omega) (Nat.le_refl _) (Nat.le_refl _) dX0_init_14 (fun ad1 H hag1 hE hI => ?_)
  obtain ⟨g1, hg1⟩ : ∃ zz, zz = va_up g N (.inl (k.2.1.1, n, .inl (fun _ => nI 0))) := ⟨_, rfl⟩
  have hE : mE k ad1 (N + 1) (mA ad0 N s.heap.size) s := hE
  replace hI : mI k ad1 (N + 1) g1 (mA ad0 N s.heap.size) s H locs := by rw [hg1]; exact hI
  refine m_stk (show ([.ref (ad1 N), .ref (ad0 i0)] : List Value) = [.ref (ad1 N), .ref (ad1 i0)] from by rw [hag1 i0 (by omega)]) ?_
  have m_1 : g1 i0 = .inr (0, [.null, .int (nI 0)]) := by rw [hg1, va_up_ne _ _ (by omega)]; exact h0
  have m_2 : g1 N = .inl (k.2.1.1, n, .inl (fun _ => nI 0)) := by rw [hg1, va_up_self]
  have hl : lv_has ls 2 [(0, .ref (ad1 i0)), (1, .int (nI n))] := by rw [hag1 i0 (by omega)]; exact hl
  refine m_putF (ci := 0) (C := RX0) (T := TX0) (N' := 2) (ty := .array .int) hx hb hts (by decide +kernel) tyX0 tyX0_ok nmX0 hown hE hI i0 (by omega) m_1 rfl 0 (by decide) (hts (.fieldLink RX0 7 "TapePrinter$Row" "values" "[I") (by decide +kernel)) rfl hin rfl (by decide +kernel) rfl rfl (Nat.le_of_ble_eq_true rfl) dX0_init_16 (fun H locs hI => ?_)
  obtain ⟨g2, hg2⟩ : ∃ zz, zz = va_up g1 i0 (.inr (0, [.ref (ad1 N), .int (nI 0)])) := ⟨_, rfl⟩
  replace hI : mI k ad1 (N + 1) g2 (mA ad0 N s.heap.size) s H locs := by rw [hg2]; exact hI
  have m_3 : g2 i0 = .inr (0, [.ref (ad1 N), .int (nI 0)]) := by rw [hg2, va_up_self]
  have m_4 : g2 N = .inl (k.2.1.1, n, .inl (fun _ => nI 0)) := by rw [hg2, va_up_ne _ _ (by omega)]; exact m_2
  refine m_cs (c1 := 1) (s1 := n) (by omega) (by omega) ?_
  exact m_nret hx hb hr hlocks (by omega) hE hI (fun i hi => by rw [hag1 i (by omega)]) (post := fun ad1 g1 => g1 = va_up (va_up g N (.inl (k.2.1.1, n, .inl (fun _ => nI 0)))) i0 (.inr (0, [.ref (ad1 N), .int (nI 0)]))) (by rw [hg2, hg1]) dX0_init_19
set_option maxHeartbeats 8000000 in
set_option maxRecDepth 100000 in
theorem c_X2_init (k : mC) (l : Launch) (ad0 : Nat → Nat) (g : Nat → va_E) (sz : Nat)  (h1 : g 1 = .inr (2, [.null, .null, .int (nI 0)])) : mCn k l yX2_init wsX2_init { frames := 2, cells := 4, slots := 36, locals := 80 } ad0 2 g sz 6 4 36 [.ref (ad0 1)] (fun ad1 g1 => CWi k ad1 g1 0 (fun _ => nI 0) (fun _ => 0) ∧ g1 0 = g 0) := by
  refine mOfN (cc := cX2_init) (maxL := 2) (ret := none) (by decide) rfl (Nat.le_of_ble_eq_true rfl) ?_
  intro p e s m below meth c hx hb hr hts hown hlocks hml hin hao locs hE hI ls hl
  have hl : lv_has ls 2 [(0, .ref (ad0 1))] := hl
  refine lv_aload_n hx hb dX2_init_0 rfl (lv_at hl 0 rfl) ?_
  refine W.objInit hx hb hown (hts (.methodLink RX2 3 objectInit) (by decide +kernel)) (hts (.instanceMethod objectInit) (by decide +kernel)) (hts (.code objectInit ⟨#[0xb1]⟩ 1 none) (by decide +kernel)) rfl (hl.1.trans hml.symm) rfl dX2_init_1 (Nat.le_of_ble_eq_true rfl) (Nat.le_of_ble_eq_true rfl) ?_
  show W p l e _ s m _ below meth c _ _ _ _ _ (F0 m 4 ls [])
  refine lv_aload_n hx hb dX2_init_4 rfl (lv_at hl 0 rfl) ?_
  refine m_new (ci := 0) (C := RX0) (T := TX0) (N' := 2) (fs := [.null, .int (nI 0)]) (c1 := 1) (s1 := 2) hx hb hts (by decide +kernel) tyX0 tyX0_ok hown (hts (.classLink RX2 9 RX0) (by decide +kernel)) (hts (.instantiable RX0 2) (by decide +kernel)) (hts (.initialized RX0) (by decide +kernel)) hE hI rfl (fun j hj => by have h9 : j = 0 ∨ j = 1 := (by omega); rcases h9 with rfl | rfl <;> rfl) (by omega) (by omega) (Nat.le_of_ble_eq_true rfl) (Nat.le_of_ble_eq_true rfl) dX2_init_5 (fun ad1 H hag1 hE hI => ?_)
  obtain ⟨g1, hg1⟩ : ∃ zz, zz = va_up g 2 (.inr (0, [.null, .int (nI 0)])) := ⟨_, rfl⟩
  have hE : mE k ad1 3 (mA ad0 2 s.heap.size) s := hE
  replace hI : mI k ad1 3 g1 (mA ad0 2 s.heap.size) s H locs := by rw [hg1]; exact hI
  refine m_stk (show ([.ref (ad1 2), .ref (ad0 1)] : List Value) = [.ref (ad1 2), .ref (ad1 1)] from by rw [hag1 1 (by omega)]) ?_
  have m_1 : g1 1 = .inr (2, [.null, .null, .int (nI 0)]) := by rw [hg1, va_up_ne _ _ (by omega)]; exact h1
  have m_2 : g1 2 = .inr (0, [.null, .int (nI 0)]) := by rw [hg1, va_up_self]
  have hl : lv_has ls 2 [(0, .ref (ad1 1))] := by rw [hag1 1 (by omega)]; exact hl
  refine lv_dup hx hb dX2_init_8 rfl ?_
  refine lv_bipush (v := nI 16) hx hb dX2_init_9 (by decide) ?_
  refine m_callN (As := [.int (nI 16)]) (rest := [.ref (ad1 2), .ref (ad1 1)]) (c1 := 2) (s1 := 18) ⟨hx, hb, hml, hown, hts⟩ hao hE hI (c_X0_init k l ad1 3 g1 _ 2 16 (by omega) (by omega) m_2) (cwI 1 hts gX2_init_X0_init rfl rfl rfl (hts (.initialized RX0) (by decide +kernel)) (hts (.methodLink RX2 11 yX0_init) (by decide +kernel)) (hts (.instanceMethod yX0_init) (by decide +kernel)) rfl (by decide +kernel) ⟨Nat.le_of_ble_eq_true rfl, Nat.le_of_ble_eq_true rfl⟩) rfl hl.1 rfl (Nat.le_of_ble_eq_true rfl) dX2_init_11 (by omega) (by omega) ⟨(Nat.le_of_ble_eq_true rfl), (Nat.le_of_ble_eq_true rfl)⟩ (fun ad2 g2 H locs hag2 hg2 hE hI => ?_)
  have hE : mE k ad2 4 (mA ad0 2 s.heap.size) s := hE
  have hI : mI k ad2 4 g2 (mA ad0 2 s.heap.size) s H locs := hI
  refine m_stk (show ([.ref (ad1 2), .ref (ad1 1)] : List Value) = [.ref (ad2 2), .ref (ad2 1)] from by rw [hag2 1 (by omega), hag2 2 (by omega)]) ?_
  have m_3 : g2 1 = .inr (2, [.null, .null, .int (nI 0)]) := by rw [hg2, va_up_ne _ _ (by omega), va_up_ne _ _ (by omega)]; exact m_1
  have m_4 : g2 2 = .inr (0, [.ref (ad2 3), .int (nI 0)]) := by rw [hg2, va_up_self]
  have m_5 : g2 3 = .inl (k.2.1.1, 16, .inl (fun _ => nI 0)) := by rw [hg2, va_up_ne _ _ (by omega), va_up_self]
  have hl : lv_has ls 2 [(0, .ref (ad2 1))] := by rw [hag2 1 (by omega)]; exact hl
  refine m_putF (ci := 2) (C := RX2) (T := TX2) (N' := 3) (ty := .object "TapePrinter$Row") hx hb hts (by decide +kernel) tyX2 tyX2_ok nmX2 hown hE hI 1 (by omega) m_3 rfl 0 (by decide) (hts (.fieldLink RX2 14 "TapePrinter$Wire" "late" "LTapePrinter$Row;") (by decide +kernel)) rfl hin rfl (by decide +kernel) rfl rfl (Nat.le_of_ble_eq_true rfl) dX2_init_14 (fun H locs hI => ?_)
  obtain ⟨g3, hg3⟩ : ∃ zz, zz = va_up g2 1 (.inr (2, [.ref (ad2 2), .null, .int (nI 0)])) := ⟨_, rfl⟩
  replace hI : mI k ad2 4 g3 (mA ad0 2 s.heap.size) s H locs := by rw [hg3]; exact hI
  have m_6 : g3 1 = .inr (2, [.ref (ad2 2), .null, .int (nI 0)]) := by rw [hg3, va_up_self]
  have m_7 : g3 2 = .inr (0, [.ref (ad2 3), .int (nI 0)]) := by rw [hg3, va_up_ne _ _ (by omega)]; exact m_4
  have m_8 : g3 3 = .inl (k.2.1.1, 16, .inl (fun _ => nI 0)) := by rw [hg3, va_up_ne _ _ (by omega)]; exact m_5
  refine lv_aload_n hx hb dX2_init_17 rfl (lv_at hl 0 rfl) ?_
  refine m_new (ci := 0) (C := RX0) (T := TX0) (N' := 2) (fs := [.null, .int (nI 0)]) (c1 := 3) (s1 := 20) hx hb hts (by decide +kernel) tyX0 tyX0_ok hown (hts (.classLink RX2 9 RX0) (by decide +kernel)) (hts (.instantiable RX0 2) (by decide +kernel)) (hts (.initialized RX0) (by decide +kernel)) hE hI rfl (fun j hj => by have h9 : j = 0 ∨ j = 1 := (by omega); rcases h9 with rfl | rfl <;> rfl) (by omega) (by omega) (Nat.le_of_ble_eq_true rfl) (Nat.le_of_ble_eq_true rfl) dX2_init_18 (fun ad3 H hag3 hE hI => ?_)
  obtain ⟨g4, hg4⟩ : ∃ zz, zz = va_up g3 4 (.inr (0, [.null, .int (nI 0)])) := ⟨_, rfl⟩
  have hE : mE k ad3 5 (mA ad0 2 s.heap.size) s := hE
  replace hI : mI k ad3 5 g4 (mA ad0 2 s.heap.size) s H locs := by rw [hg4]; exact hI
  refine m_stk (show ([.ref (ad3 4), .ref (ad2 1)] : List Value) = [.ref (ad3 4), .ref (ad3 1)] from by rw [hag3 1 (by omega)]) ?_
  have m_9 : g4 1 = .inr (2, [.ref (ad3 2), .null, .int (nI 0)]) := by rw [hg4, va_up_ne _ _ (by omega), hag3 2 (by omega)]; exact m_6
  have m_10 : g4 2 = .inr (0, [.ref (ad3 3), .int (nI 0)]) := by rw [hg4, va_up_ne _ _ (by omega), hag3 3 (by omega)]; exact m_7
  have m_11 : g4 3 = .inl (k.2.1.1, 16, .inl (fun _ => nI 0)) := by rw [hg4, va_up_ne _ _ (by omega)]; exact m_8
  have m_12 : g4 4 = .inr (0, [.null, .int (nI 0)]) := by rw [hg4, va_up_self]
  have hl : lv_has ls 2 [(0, .ref (ad3 1))] := by rw [hag3 1 (by omega)]; exact hl
  refine lv_dup hx hb dX2_init_21 rfl ?_
  refine lv_bipush (v := nI 16) hx hb dX2_init_22 (by decide) ?_
  refine m_callN (As := [.int (nI 16)]) (rest := [.ref (ad3 4), .ref (ad3 1)]) (c1 := 4) (s1 := 36) ⟨hx, hb, hml, hown, hts⟩ hao hE hI (c_X0_init k l ad3 5 g4 _ 4 16 (by omega) (by omega) m_12) (cwI 1 hts gX2_init_X0_init rfl rfl rfl (hts (.initialized RX0) (by decide +kernel)) (hts (.methodLink RX2 11 yX0_init) (by decide +kernel)) (hts (.instanceMethod yX0_init) (by decide +kernel)) rfl (by decide +kernel) ⟨Nat.le_of_ble_eq_true rfl, Nat.le_of_ble_eq_true rfl⟩) rfl hl.1 rfl (Nat.le_of_ble_eq_true rfl) dX2_init_24 (by omega) (by omega) ⟨(Nat.le_of_ble_eq_true rfl), (Nat.le_of_ble_eq_true rfl)⟩ (fun ad4 g5 H locs hag4 hg5 hE hI => ?_)
  have hE : mE k ad4 6 (mA ad0 2 s.heap.size) s := hE
  have hI : mI k ad4 6 g5 (mA ad0 2 s.heap.size) s H locs := hI
  refine m_stk (show ([.ref (ad3 4), .ref (ad3 1)] : List Value) = [.ref (ad4 4), .ref (ad4 1)] from by rw [hag4 1 (by omega), hag4 4 (by omega)]) ?_
  have m_13 : g5 1 = .inr (2, [.ref (ad4 2), .null, .int (nI 0)]) := by rw [hg5, va_up_ne _ _ (by omega), va_up_ne _ _ (by omega), hag4 2 (by omega)]; exact m_9
  have m_14 : g5 2 = .inr (0, [.ref (ad4 3), .int (nI 0)]) := by rw [hg5, va_up_ne _ _ (by omega), va_up_ne _ _ (by omega), hag4 3 (by omega)]; exact m_10
  have m_15 : g5 3 = .inl (k.2.1.1, 16, .inl (fun _ => nI 0)) := by rw [hg5, va_up_ne _ _ (by omega), va_up_ne _ _ (by omega)]; exact m_11
  have m_16 : g5 4 = .inr (0, [.ref (ad4 5), .int (nI 0)]) := by rw [hg5, va_up_self]
  have m_17 : g5 5 = .inl (k.2.1.1, 16, .inl (fun _ => nI 0)) := by rw [hg5, va_up_ne _ _ (by omega), va_up_self]
  have hl : lv_has ls 2 [(0, .ref (ad4 1))] := by rw [hag4 1 (by omega)]; exact hl
  refine m_putF (ci := 2) (C := RX2) (T := TX2) (N' := 3) (ty := .object "TapePrinter$Row") hx hb hts (by decide +kernel) tyX2 tyX2_ok nmX2 hown hE hI 1 (by omega) m_13 rfl 1 (by decide) (hts (.fieldLink RX2 20 "TapePrinter$Wire" "garbled" "LTapePrinter$Row;") (by decide +kernel)) rfl hin rfl (by decide +kernel) rfl rfl (Nat.le_of_ble_eq_true rfl) dX2_init_27 (fun H locs hI => ?_)
  obtain ⟨g6, hg6⟩ : ∃ zz, zz = va_up g5 1 (.inr (2, [.ref (ad4 2), .ref (ad4 4), .int (nI 0)])) := ⟨_, rfl⟩
  replace hI : mI k ad4 6 g6 (mA ad0 2 s.heap.size) s H locs := by rw [hg6]; exact hI
  have m_18 : g6 1 = .inr (2, [.ref (ad4 2), .ref (ad4 4), .int (nI 0)]) := by rw [hg6, va_up_self]
  have m_19 : g6 2 = .inr (0, [.ref (ad4 3), .int (nI 0)]) := by rw [hg6, va_up_ne _ _ (by omega)]; exact m_14
  have m_20 : g6 3 = .inl (k.2.1.1, 16, .inl (fun _ => nI 0)) := by rw [hg6, va_up_ne _ _ (by omega)]; exact m_15
  have m_21 : g6 4 = .inr (0, [.ref (ad4 5), .int (nI 0)]) := by rw [hg6, va_up_ne _ _ (by omega)]; exact m_16
  have m_22 : g6 5 = .inl (k.2.1.1, 16, .inl (fun _ => nI 0)) := by rw [hg6, va_up_ne _ _ (by omega)]; exact m_17
  refine lv_iconst (v := nI 0) hx hb dX2_init_30 (by decide) ?_
  refine lv_istore_n (lv' := [(1, .int (nI 0)), (0, .ref (ad4 1))]) hx hb dX2_init_31 rfl hl (by decide) rfl (fun ls hl => ?_)
  have hv9 : g6 0 = g 0 := by rw [hg6, va_up_ne _ _ (by omega), hg5, va_up_ne _ _ (by omega), va_up_ne _ _ (by omega), hg4, va_up_ne _ _ (by omega), hg3, va_up_ne _ _ (by omega), hg2, va_up_ne _ _ (by omega), va_up_ne _ _ (by omega), hg1, va_up_ne _ _ (by omega)]
  refine m_loop (σ := Nat × (Nat → va_E)) (fun ⟨j, gi⟩ => j ≤ 16 ∧ gi 1 = .inr (2, [.ref (ad4 2), .ref (ad4 4), .int (nI 0)]) ∧ gi 2 = .inr (0, [.ref (ad4 3), .int (nI j)]) ∧ gi 3 = .inl (k.2.1.1, 16, .inl (fun _ => nI 0)) ∧ gi 4 = .inr (0, [.ref (ad4 5), .int (nI j)]) ∧ gi 5 = .inl (k.2.1.1, 16, .inl (fun _ => nI 0)) ∧ gi 0 = g 0) (fun ⟨j, gi⟩ => 16 - j) (fun ⟨j, gi⟩ => gi) (fun ⟨j, gi⟩ => [(0, .ref (ad4 1)), (1, .int (nI j))]) (nL := 2) (0, g6) ⟨Nat.zero_le _, m_18, m_19, m_20, m_21, m_22, hv9⟩ hI (lv_sub hl [1, 0] rfl) ?_
  rintro ⟨j, gi⟩ ⟨hj16, hv1, hv2, hv3, hv4, hv5, hv0⟩ ih32 H locs ls hI hl
  have hI : mI k ad4 6 gi (mA ad0 2 s.heap.size) s H locs := hI
  have hl : lv_has ls 2 [(0, .ref (ad4 1)), (1, .int (nI j))] := hl
  obtain ⟨g7, hg7⟩ : ∃ zz, zz = gi := ⟨_, rfl⟩
  replace hI : mI k ad4 6 g7 (mA ad0 2 s.heap.size) s H locs := by rw [hg7]; exact hI
  rw [← hg7] at hv1 hv2 hv3 hv4 hv5 hv0
  refine lv_iload_n hx hb dX2_init_32 rfl (lv_at hl 1 rfl) ?_
  refine lv_bipush (v := nI 16) hx hb dX2_init_33 (by decide) ?_
  refine m_cgeN (tgt := 62) hx hb (by omega) (by omega) dX2_init_35 (by decide) (fun c_35 => ?_) (fun c_35 => ?_)
  · have hj9 : j = 16 := by omega
    rw [hj9] at hv2 hv4
    refine m_cs (c1 := 4) (s1 := 36) (by omega) (by omega) ?_
    exact m_nret hx hb hr hlocks (by omega) hE hI (fun i hi => by rw [hag4 i (by omega), hag3 i (by omega), hag2 i (by omega), hag1 i (by omega)]) (post := fun ad1 g1 => CWi k ad1 g1 0 (fun _ => nI 0) (fun _ => 0) ∧ g1 0 = g 0) (⟨⟨hv1, ⟨hv2, hv3⟩, ⟨hv4, hv5⟩⟩, hv0⟩) dX2_init_62
  · refine lv_aload_n hx hb dX2_init_38 rfl (lv_at hl 0 rfl) ?_
    refine m_get (ci := 2) (C := RX2) (T := TX2) (N' := 3) hx hb hts (by decide +kernel) hown hE hI 1 (by omega) hv1 rfl 0 (by decide) (hts (.fieldLink RX2 14 "TapePrinter$Wire" "late" "LTapePrinter$Row;") (by decide +kernel)) rfl dX2_init_39 ?_
    refine lv_iconst (v := nI 0) hx hb dX2_init_42 (by decide) ?_
    refine m_callVi (As := [.int (nI 0)]) (rest := []) ⟨hx, hb, hml, hown, hts⟩ hE hI (c_X0_add_in k l ad4 6 g7 _ 2 16 j (fun _ => nI 0) (nI 0) (by omega) (by omega) (by omega) ⟨hv2, hv3⟩ (by omega)) (cwV 1 hts gX2_init_X0_add rfl rfl rfl (by decide +kernel) ⟨Nat.le_of_ble_eq_true rfl, Nat.le_of_ble_eq_true rfl⟩) (i := 2) (by omega) hv2 rfl rfl hl.1 rfl (Nat.le_of_ble_eq_true rfl) dX2_init_43 ⟨Nat.le_of_ble_eq_true rfl, Nat.le_of_ble_eq_true rfl⟩ (m_deti (fun H locs hI => ?_))
    obtain ⟨g8, hg8⟩ : ∃ zz, zz = va_up (va_up g7 3 (.inl (k.2.1.1, 16, .inl (upd (fun _ => nI 0) j (nI 0))))) 2 (.inr (0, [.ref (ad4 3), .int (nI (j + 1))])) := ⟨_, rfl⟩
    replace hI : mI k ad4 6 g8 (mA ad0 2 s.heap.size) s H locs := by rw [hg8]; exact hI
    have m_23 : g8 1 = .inr (2, [.ref (ad4 2), .ref (ad4 4), .int (nI 0)]) := by rw [hg8, va_up_ne _ _ (by omega), va_up_ne _ _ (by omega)]; exact hv1
    have m_24 : g8 2 = .inr (0, [.ref (ad4 3), .int (nI (j + 1))]) := by rw [hg8, va_up_self]
    have m_25 : g8 3 = .inl (k.2.1.1, 16, .inl (upd (fun _ => nI 0) j (nI 0))) := by rw [hg8, va_up_ne _ _ (by omega), va_up_self]
    have m_26 : g8 4 = .inr (0, [.ref (ad4 5), .int (nI j)]) := by rw [hg8, va_up_ne _ _ (by omega), va_up_ne _ _ (by omega)]; exact hv4
    have m_27 : g8 5 = .inl (k.2.1.1, 16, .inl (fun _ => nI 0)) := by rw [hg8, va_up_ne _ _ (by omega), va_up_ne _ _ (by omega)]; exact hv5
    have m_28 : g8 3 = .inl (k.2.1.1, 16, .inl (fun _ => nI 0)) := by rw [m_25, upd_c]
    refine lv_pop hx hb dX2_init_46 rfl ?_
    refine lv_aload_n hx hb dX2_init_47 rfl (lv_at hl 0 rfl) ?_
    refine m_get (ci := 2) (C := RX2) (T := TX2) (N' := 3) hx hb hts (by decide +kernel) hown hE hI 1 (by omega) m_23 rfl 1 (by decide) (hts (.fieldLink RX2 20 "TapePrinter$Wire" "garbled" "LTapePrinter$Row;") (by decide +kernel)) rfl dX2_init_48 ?_
    refine lv_iconst (v := nI 0) hx hb dX2_init_51 (by decide) ?_
    refine m_callVi (As := [.int (nI 0)]) (rest := []) ⟨hx, hb, hml, hown, hts⟩ hE hI (c_X0_add_in k l ad4 6 g8 _ 4 16 j (fun _ => nI 0) (nI 0) (by omega) (by omega) (by omega) ⟨m_26, m_27⟩ (by omega)) (cwV 1 hts gX2_init_X0_add rfl rfl rfl (by decide +kernel) ⟨Nat.le_of_ble_eq_true rfl, Nat.le_of_ble_eq_true rfl⟩) (i := 4) (by omega) m_26 rfl rfl hl.1 rfl (Nat.le_of_ble_eq_true rfl) dX2_init_52 ⟨Nat.le_of_ble_eq_true rfl, Nat.le_of_ble_eq_true rfl⟩ (m_deti (fun H locs hI => ?_))
    obtain ⟨g9, hg9⟩ : ∃ zz, zz = va_up (va_up g8 5 (.inl (k.2.1.1, 16, .inl (upd (fun _ => nI 0) j (nI 0))))) 4 (.inr (0, [.ref (ad4 5), .int (nI (j + 1))])) := ⟨_, rfl⟩
    replace hI : mI k ad4 6 g9 (mA ad0 2 s.heap.size) s H locs := by rw [hg9]; exact hI
    have m_29 : g9 1 = .inr (2, [.ref (ad4 2), .ref (ad4 4), .int (nI 0)]) := by rw [hg9, va_up_ne _ _ (by omega), va_up_ne _ _ (by omega)]; exact m_23
    have m_30 : g9 2 = .inr (0, [.ref (ad4 3), .int (nI (j + 1))]) := by rw [hg9, va_up_ne _ _ (by omega), va_up_ne _ _ (by omega)]; exact m_24
    have m_31 : g9 3 = .inl (k.2.1.1, 16, .inl (fun _ => nI 0)) := by rw [hg9, va_up_ne _ _ (by omega), va_up_ne _ _ (by omega)]; exact m_28
    have m_32 : g9 4 = .inr (0, [.ref (ad4 5), .int (nI (j + 1))]) := by rw [hg9, va_up_self]
    have m_33 : g9 5 = .inl (k.2.1.1, 16, .inl (upd (fun _ => nI 0) j (nI 0))) := by rw [hg9, va_up_ne _ _ (by omega), va_up_self]
    have m_34 : g9 5 = .inl (k.2.1.1, 16, .inl (fun _ => nI 0)) := by rw [m_33, upd_c]
    refine lv_pop hx hb dX2_init_55 rfl ?_
    refine lv_iinc (v := nI (j + 1)) (lv' := [(1, .int (nI (j + 1))), (0, .ref (ad4 1))]) hx hb dX2_init_56 hl (k := 1) rfl (nI_add j 1) (by decide) rfl (fun ls hl => ?_)
    refine lv_goto (tgt := 32) hx hb dX2_init_59 (by decide) ?_
    have hv9 : g9 0 = g 0 := by rw [hg9, va_up_ne _ _ (by omega), va_up_ne _ _ (by omega), hg8, va_up_ne _ _ (by omega), va_up_ne _ _ (by omega)]; exact hv0
    exact ih32 (j + 1, g9) ⟨by omega, m_29, m_30, m_31, m_32, m_34, hv9⟩ (show 16 - (j + 1) < 16 - j by omega) _ _ _ hI (lv_sub hl [1, 0] rfl)
set_option maxHeartbeats 8000000 in
set_option maxRecDepth 100000 in
theorem c_X1_init (k : mC) (l : Launch) (ad0 : Nat → Nat) (g : Nat → va_E) (sz : Nat)  (h6 : g 6 = .inr (1, [.null, .int (nI 0), .int (nI 0)])) : mCn k l yX1_init wsX1_init { frames := 2, cells := 41, slots := 860, locals := 80 } ad0 7 g sz 48 41 860 [.ref (ad0 6)] (fun ad1 g1 => (∃ r : Nat → Option Nat, CSh k ad1 g1 0 1 (fun _ => 0) (fun _ _ => 0) r) ∧ ∀ i, i < 6 → g1 i = g i) := by
  refine mOfN (cc := cX1_init) (maxL := 2) (ret := none) (by decide) rfl (Nat.le_of_ble_eq_true rfl) ?_
  intro p e s m below meth c hx hb hr hts hown hlocks hml hin hao locs hE hI ls hl
  have hl : lv_has ls 2 [(0, .ref (ad0 6))] := hl
  refine lv_aload_n hx hb dX1_init_0 rfl (lv_at hl 0 rfl) ?_
  refine W.objInit hx hb hown (hts (.methodLink RX1 3 objectInit) (by decide +kernel)) (hts (.instanceMethod objectInit) (by decide +kernel)) (hts (.code objectInit ⟨#[0xb1]⟩ 1 none) (by decide +kernel)) rfl (hl.1.trans hml.symm) rfl dX1_init_1 (Nat.le_of_ble_eq_true rfl) (Nat.le_of_ble_eq_true rfl) ?_
  show W p l e _ s m _ below meth c _ _ _ _ _ (F0 m 4 ls [])
  refine lv_aload_n hx hb dX1_init_4 rfl (lv_at hl 0 rfl) ?_
  refine lv_bipush (v := nI 20) hx hb dX1_init_5 (by decide) ?_
  refine m_newq (n := 20) (c1 := 1) (s1 := 20) hx hb hown (hts (.classLink RX1 9 "TapePrinter$Row") (by decide +kernel)) hao hE hI (by omega) (by omega) (by omega) (by show _ ≤ 41; omega) (by show _ ≤ 860; omega) dX1_init_7 (fun ad1 H hag1 hE hI => ?_)
  obtain ⟨g1, hg1⟩ : ∃ zz, zz = va_up g 7 (.inl (k.2.1.2.1, 20, .inr (.inr (.inr (.inr (fun _ => none)))))) := ⟨_, rfl⟩
  have hE : mE k ad1 8 (mA ad0 7 s.heap.size) s := hE
  replace hI : mI k ad1 8 g1 (mA ad0 7 s.heap.size) s H locs := by rw [hg1]; exact hI
  refine m_stk (show ([.ref (ad1 7), .ref (ad0 6)] : List Value) = [.ref (ad1 7), .ref (ad1 6)] from by rw [hag1 6 (by omega)]) ?_
  have m_1 : g1 6 = .inr (1, [.null, .int (nI 0), .int (nI 0)]) := by rw [hg1, va_up_ne _ _ (by omega)]; exact h6
  have m_2 : g1 7 = .inl (k.2.1.2.1, 20, .inr (.inr (.inr (.inr (fun _ => none))))) := by rw [hg1, va_up_self]
  have hl : lv_has ls 2 [(0, .ref (ad1 6))] := by rw [hag1 6 (by omega)]; exact hl
  refine m_putF (ci := 1) (C := RX1) (T := TX1) (N' := 3) (ty := .array (.object "TapePrinter$Row")) hx hb hts (by decide +kernel) tyX1 tyX1_ok nmX1 hown hE hI 6 (by omega) m_1 rfl 0 (by decide) (hts (.fieldLink RX1 11 "TapePrinter$Sheet" "rows" "[LTapePrinter$Row;") (by decide +kernel)) rfl hin rfl (by decide +kernel) rfl rfl (Nat.le_of_ble_eq_true rfl) dX1_init_10 (fun H locs hI => ?_)
  obtain ⟨g2, hg2⟩ : ∃ zz, zz = va_up g1 6 (.inr (1, [.ref (ad1 7), .int (nI 0), .int (nI 0)])) := ⟨_, rfl⟩
  replace hI : mI k ad1 8 g2 (mA ad0 7 s.heap.size) s H locs := by rw [hg2]; exact hI
  have m_3 : g2 6 = .inr (1, [.ref (ad1 7), .int (nI 0), .int (nI 0)]) := by rw [hg2, va_up_self]
  have m_4 : g2 7 = .inl (k.2.1.2.1, 20, .inr (.inr (.inr (.inr (fun _ => none))))) := by rw [hg2, va_up_ne _ _ (by omega)]; exact m_2
  refine lv_aload_n hx hb dX1_init_13 rfl (lv_at hl 0 rfl) ?_
  refine lv_iconst (v := nI 1) hx hb dX1_init_14 (by decide) ?_
  refine m_put (ci := 1) (C := RX1) (T := TX1) (N' := 3) (ty := .int) hx hb hts (by decide +kernel) tyX1 tyX1_ok nmX1 hown hE hI 6 (by omega) m_3 rfl 2 (by decide) (hts (.fieldLink RX1 17 "TapePrinter$Sheet" "used" "I") (by decide +kernel)) rfl (by decide +kernel) rfl rfl (Nat.le_of_ble_eq_true rfl) dX1_init_15 (fun H locs hI => ?_)
  obtain ⟨g3, hg3⟩ : ∃ zz, zz = va_up g2 6 (.inr (1, [.ref (ad1 7), .int (nI 0), .int (nI 1)])) := ⟨_, rfl⟩
  replace hI : mI k ad1 8 g3 (mA ad0 7 s.heap.size) s H locs := by rw [hg3]; exact hI
  have m_5 : g3 6 = .inr (1, [.ref (ad1 7), .int (nI 0), .int (nI 1)]) := by rw [hg3, va_up_self]
  have m_6 : g3 7 = .inl (k.2.1.2.1, 20, .inr (.inr (.inr (.inr (fun _ => none))))) := by rw [hg3, va_up_ne _ _ (by omega)]; exact m_4
  refine lv_iconst (v := nI 0) hx hb dX1_init_18 (by decide) ?_
  refine lv_istore_n (lv' := [(1, .int (nI 0)), (0, .ref (ad1 6))]) hx hb dX1_init_19 rfl hl (by decide) rfl (fun ls hl => ?_)
  have hz7 : g3 7 = .inl (k.2.1.2.1, 20, .inr (.inr (.inr (.inr (fun q => if q < 0 then some (ad1 (8 + 2 * q)) else none))))) := by rw [m_6, show (fun q : Nat => if q < 0 then some (ad1 (8 + 2 * q)) else none) = fun _ => none from funext fun q => if_neg (Nat.not_lt_zero q)]
  refine m_loopG (σ := Nat × (Nat → Nat) × (Nat → va_E)) (fun x H locs ls => x.1 ≤ 20 ∧ (∀ i, i < 7 → x.2.1 i = ad0 i) ∧ mE k x.2.1 (8 + 2 * x.1) (mA ad0 7 s.heap.size) s ∧ mI k x.2.1 (8 + 2 * x.1) x.2.2 (mA ad0 7 s.heap.size) s H locs ∧ x.2.2 6 = .inr (1, [.ref (x.2.1 7), .int (nI 0), .int (nI 1)]) ∧ x.2.2 7 = .inl (k.2.1.2.1, 20, .inr (.inr (.inr (.inr (fun q => if q < x.1 then some (x.2.1 (8 + 2 * q)) else none))))) ∧ (∀ q, q < x.1 → CRow k x.2.1 x.2.2 (8 + 2 * q) 40 0 (fun _ => nI 0)) ∧ (∀ i, i < 6 → x.2.2 i = g i) ∧ lv_has ls 2 [(0, .ref (x.2.1 6)), (1, .int (nI x.1))]) (fun x => 20 - x.1) (fun x => 1 + 2 * x.1) (fun x => 20 + 42 * x.1) (0, ad1, g3) ⟨Nat.zero_le _, fun i hi => by show ad1 i = ad0 i; rw [hag1 i (by omega)], hE, hI, m_5, hz7, fun q hq => absurd hq (Nat.not_lt_zero _), fun i hi => by show g3 i = g i; rw [hg3, va_up_ne _ _ (by omega), hg2, va_up_ne _ _ (by omega), hg1, va_up_ne _ _ (by omega)], lv_sub hl [1, 0] rfl⟩ ?_
  rintro ⟨j, adj, gj⟩ ih H locs ls ⟨hj20, ha7, hE, hI, hj6, hj7, hrw, hf6, hl⟩
  have hj20 : j ≤ 20 := hj20
  have ha7 : ∀ i, i < 7 → adj i = ad0 i := ha7
  have hE : mE k adj (8 + 2 * j) (mA ad0 7 s.heap.size) s := hE
  obtain ⟨g4, hgj⟩ : ∃ zz, zz = gj := ⟨_, rfl⟩
  replace hI : mI k adj (8 + 2 * j) g4 (mA ad0 7 s.heap.size) s H locs := by rw [hgj]; exact hI
  have hj6 : g4 6 = .inr (1, [.ref (adj 7), .int (nI 0), .int (nI 1)]) := by rw [hgj]; exact hj6
  have hj7 : g4 7 = .inl (k.2.1.2.1, 20, .inr (.inr (.inr (.inr (fun q => if q < j then some (adj (8 + 2 * q)) else none))))) := by rw [hgj]; exact hj7
  have hf6 : ∀ i, i < 6 → gj i = g i := hf6
  have hrw : ∀ q, q < j → CRow k adj gj (8 + 2 * q) 40 0 (fun _ => nI 0) := hrw
  have hl : lv_has ls 2 [(0, .ref (adj 6)), (1, .int (nI j))] := hl
  show W p l e _ s m _ below meth c _ _ (1 + 2 * j) (20 + 42 * j) _ _
  refine lv_iload_n hx hb dX1_init_20 rfl (lv_at hl 1 rfl) ?_
  refine lv_aload_n hx hb dX1_init_21 rfl (lv_at hl 0 rfl) ?_
  refine m_get (ci := 1) (C := RX1) (T := TX1) (N' := 3) hx hb hts (by decide +kernel) hown hE hI 6 (by omega) hj6 rfl 0 (by decide) (hts (.fieldLink RX1 11 "TapePrinter$Sheet" "rows" "[LTapePrinter$Row;") (by decide +kernel)) rfl dX1_init_22 ?_
  refine m_alenq hx hb hE hI 7 (by omega) hj7 dX1_init_25 ?_
  refine m_cgeN (tgt := 50) hx hb (by omega) (by omega) dX1_init_26 (by decide) (fun c_26 => ?_) (fun c_26 => ?_)
  · have hj9 : j = 20 := by omega
    rw [hj9] at hj7 hrw hE hI
    refine m_cs (c1 := 41) (s1 := 860) (by omega) (by omega) ?_
    exact m_nret hx hb hr hlocks (by omega) hE hI ha7 (post := fun ad1 g1 => (∃ r : Nat → Option Nat, CSh k ad1 g1 0 1 (fun _ => 0) (fun _ _ => 0) r) ∧ ∀ i, i < 6 → g1 i = g i) (⟨⟨fun q => if q < 20 then some (adj (8 + 2 * q)) else none, by rw [← hgj] at hrw; exact ⟨hj6, hj7, fun q hq => if_pos hq, fun q hq => ⟨hrw q hq, Nat.zero_le _⟩⟩⟩, fun i hi => by rw [hgj]; exact hf6 i hi⟩) dX1_init_50
  · refine lv_aload_n hx hb dX1_init_29 rfl (lv_at hl 0 rfl) ?_
    refine m_get (ci := 1) (C := RX1) (T := TX1) (N' := 3) hx hb hts (by decide +kernel) hown hE hI 6 (by omega) hj6 rfl 0 (by decide) (hts (.fieldLink RX1 11 "TapePrinter$Sheet" "rows" "[LTapePrinter$Row;") (by decide +kernel)) rfl dX1_init_30 ?_
    refine lv_iload_n hx hb dX1_init_33 rfl (lv_at hl 1 rfl) ?_
    refine m_new (ci := 0) (C := RX0) (T := TX0) (N' := 2) (fs := [.null, .int (nI 0)]) (c1 := 1 + 2 * j + 1) (s1 := 20 + 42 * j + 2) hx hb hts (by decide +kernel) tyX0 tyX0_ok hown (hts (.classLink RX1 9 RX0) (by decide +kernel)) (hts (.instantiable RX0 2) (by decide +kernel)) (hts (.initialized RX0) (by decide +kernel)) hE hI rfl (fun j hj => by have h9 : j = 0 ∨ j = 1 := (by omega); rcases h9 with rfl | rfl <;> rfl) (by omega) (by omega) (by show _ ≤ 41; omega) (by show _ ≤ 860; omega) dX1_init_34 (fun ad2 H hag2 hE hI => ?_)
    obtain ⟨g5, hg5⟩ : ∃ zz, zz = va_up g4 (8 + 2 * j) (.inr (0, [.null, .int (nI 0)])) := ⟨_, rfl⟩
    have hE : mE k ad2 (8 + 2 * j + 1) (mA ad0 7 s.heap.size) s := hE
    replace hI : mI k ad2 (8 + 2 * j + 1) g5 (mA ad0 7 s.heap.size) s H locs := by rw [hg5]; exact hI
    refine m_stk (show ([.ref (ad2 (8 + 2 * j)), .int (nI j), .ref (adj 7)] : List Value) = [.ref (ad2 (8 + 2 * j)), .int (nI j), .ref (ad2 7)] from by rw [hag2 7 (by omega)]) ?_
    have m_7 : g5 6 = .inr (1, [.ref (ad2 7), .int (nI 0), .int (nI 1)]) := by rw [hg5, va_up_ne _ _ (by omega), hag2 7 (by omega)]; exact hj6
    have m_8 : g5 7 = .inl (k.2.1.2.1, 20, .inr (.inr (.inr (.inr (fun q => if q < j then some (adj (8 + 2 * q)) else none))))) := by rw [hg5, va_up_ne _ _ (by omega)]; exact hj7
    have m_9 : g5 (8 + 2 * j) = .inr (0, [.null, .int (nI 0)]) := by rw [hg5, va_up_self]
    have hl : lv_has ls 2 [(0, .ref (ad2 6)), (1, .int (nI j))] := by rw [hag2 6 (by omega)]; exact hl
    refine lv_dup hx hb dX1_init_37 rfl ?_
    refine lv_bipush (v := nI 40) hx hb dX1_init_38 (by decide) ?_
    refine m_callN (As := [.int (nI 40)]) (rest := [.ref (ad2 (8 + 2 * j)), .int (nI j), .ref (ad2 7)]) (c1 := 1 + 2 * j + 2) (s1 := 20 + 42 * j + 42) ⟨hx, hb, hml, hown, hts⟩ hao hE hI (c_X0_init k l ad2 (8 + 2 * j + 1) g5 _ (8 + 2 * j) 40 (by omega) (by omega) m_9) (cwI 1 hts gX1_init_X0_init rfl rfl rfl (hts (.initialized RX0) (by decide +kernel)) (hts (.methodLink RX1 21 yX0_init) (by decide +kernel)) (hts (.instanceMethod yX0_init) (by decide +kernel)) rfl (by decide +kernel) ⟨Nat.le_of_ble_eq_true rfl, Nat.le_of_ble_eq_true rfl⟩) rfl hl.1 rfl (Nat.le_of_ble_eq_true rfl) dX1_init_40 (by omega) (by omega) ⟨(by show _ ≤ 41; omega), (by show _ ≤ 860; omega)⟩ (fun ad3 g6 H locs hag3 hg6 hE hI => ?_)
    have hE : mE k ad3 (8 + 2 * j + 2) (mA ad0 7 s.heap.size) s := hE
    have hI : mI k ad3 (8 + 2 * j + 2) g6 (mA ad0 7 s.heap.size) s H locs := hI
    refine m_stk (show ([.ref (ad2 (8 + 2 * j)), .int (nI j), .ref (ad2 7)] : List Value) = [.ref (ad3 (8 + 2 * j)), .int (nI j), .ref (ad3 7)] from by rw [hag3 7 (by omega), hag3 (8 + 2 * j) (by omega)]) ?_
    have m_10 : g6 6 = .inr (1, [.ref (ad3 7), .int (nI 0), .int (nI 1)]) := by rw [hg6, va_up_ne _ _ (by omega), va_up_ne _ _ (by omega), hag3 7 (by omega)]; exact m_7
    have m_11 : g6 7 = .inl (k.2.1.2.1, 20, .inr (.inr (.inr (.inr (fun q => if q < j then some (adj (8 + 2 * q)) else none))))) := by rw [hg6, va_up_ne _ _ (by omega), va_up_ne _ _ (by omega)]; exact m_8
    have m_12 : g6 (8 + 2 * j) = .inr (0, [.ref (ad3 (8 + 2 * j + 1)), .int (nI 0)]) := by rw [hg6, va_up_self]
    have m_13 : g6 (8 + 2 * j + 1) = .inl (k.2.1.1, 40, .inl (fun _ => nI 0)) := by rw [hg6, va_up_ne _ _ (by omega), va_up_self]
    have hl : lv_has ls 2 [(0, .ref (ad3 6)), (1, .int (nI j))] := by rw [hag3 6 (by omega)]; exact hl
    refine m_astq hx hb hE hI 7 (8 + 2 * j) (by omega) (by omega) m_11 m_12 (by omega) (by omega) dX1_init_43 (fun H locs hI => ?_)
    obtain ⟨g7, hg7⟩ : ∃ zz, zz = va_up g6 7 (.inl (k.2.1.2.1, 20, .inr (.inr (.inr (.inr (va_up (fun q => if q < j then some (adj (8 + 2 * q)) else none) j (some (ad3 (8 + 2 * j))))))))) := ⟨_, rfl⟩
    replace hI : mI k ad3 (8 + 2 * j + 2) g7 (mA ad0 7 s.heap.size) s H locs := by rw [hg7]; exact hI
    have m_14 : g7 6 = .inr (1, [.ref (ad3 7), .int (nI 0), .int (nI 1)]) := by rw [hg7, va_up_ne _ _ (by omega)]; exact m_10
    have m_15 : g7 7 = .inl (k.2.1.2.1, 20, .inr (.inr (.inr (.inr (va_up (fun q => if q < j then some (adj (8 + 2 * q)) else none) j (some (ad3 (8 + 2 * j)))))))) := by rw [hg7, va_up_self]
    have m_16 : g7 (8 + 2 * j) = .inr (0, [.ref (ad3 (8 + 2 * j + 1)), .int (nI 0)]) := by rw [hg7, va_up_ne _ _ (by omega)]; exact m_12
    have m_17 : g7 (8 + 2 * j + 1) = .inl (k.2.1.1, 40, .inl (fun _ => nI 0)) := by rw [hg7, va_up_ne _ _ (by omega)]; exact m_13
    refine lv_iinc (v := nI (j + 1)) (lv' := [(1, .int (nI (j + 1))), (0, .ref (ad3 6))]) hx hb dX1_init_44 hl (k := 1) rfl (nI_add j 1) (by decide) rfl (fun ls hl => ?_)
    refine lv_goto (tgt := 20) hx hb dX1_init_47 (by decide) ?_
    refine m_cs (c1 := 1 + 2 * (j + 1)) (s1 := 20 + 42 * (j + 1)) (by omega) (by omega) ?_
    have hq7 : ∀ i, i < 8 + 2 * j → ad3 i = adj i := fun i hi => by rw [hag3 i (by omega), hag2 i (by omega)]
    have hq8 : ∀ i, i < 8 + 2 * j → i ≠ 7 → g7 i = gj i := fun i hi h7 => by rw [hg7, va_up_ne _ _ (by omega), hg6, va_up_ne _ _ (by omega), va_up_ne _ _ (by omega), hg5, va_up_ne _ _ (by omega), hgj]
    have hfe : va_up (fun q => if q < j then some (adj (8 + 2 * q)) else none) j (some (ad3 (8 + 2 * j))) = fun q => if q < j + 1 then some (ad3 (8 + 2 * q)) else none := by
      funext q
      show (if q = j then some (ad3 (8 + 2 * j)) else if q < j then some (adj (8 + 2 * q)) else none) = if q < j + 1 then some (ad3 (8 + 2 * q)) else none
      by_cases hqj : q = j
      · subst hqj; rw [if_pos rfl, if_pos (by omega)]
      · rw [if_neg hqj]
        by_cases hql : q < j
        · rw [if_pos hql, if_pos (by omega), hq7 _ (by omega)]
        · rw [if_neg hql, if_neg (by omega)]
    have hE : mE k ad3 (8 + 2 * (j + 1)) (mA ad0 7 s.heap.size) s := by rw [show 8 + 2 * (j + 1) = 8 + 2 * j + 2 by omega]; exact hE
    have hI : mI k ad3 (8 + 2 * (j + 1)) g7 (mA ad0 7 s.heap.size) s H locs := by rw [show 8 + 2 * (j + 1) = 8 + 2 * j + 2 by omega]; exact hI
    refine ih (j + 1, ad3, g7) (by show 20 - (j + 1) < 20 - j; omega) _ _ _ ⟨by show j + 1 ≤ 20; omega, fun i hi => by rw [show (j + 1, ad3, g7).2.1 i = ad3 i from rfl, hq7 i (by omega)]; exact ha7 i hi, hE, hI, m_14, ?_, fun q hq => ?_, fun i hi => by rw [show (j + 1, ad3, g7).2.2 i = g7 i from rfl, hq8 i (by omega) (by omega)]; exact hf6 i hi, lv_sub hl [1, 0] rfl⟩
    · show g7 7 = _
      rw [m_15, hfe]
    · show CRow k ad3 g7 (8 + 2 * q) 40 0 (fun _ => nI 0)
      have hq' : q < j + 1 := hq
      by_cases hqj : q = j
      · subst hqj; exact ⟨m_16, m_17⟩
      · obtain ⟨k1, k2⟩ := hrw q (by omega)
        exact ⟨by rw [hq8 _ (by omega) (by omega), k1, hq7 _ (by omega)], by rw [hq8 _ (by omega) (by omega), k2]⟩
set_option maxHeartbeats 8000000 in
set_option maxRecDepth 100000 in
theorem c_X3_init (k : mC) (l : Launch) (ad0 : Nat → Nat) (g : Nat → va_E) (sz : Nat)  (h0 : g 0 = .inr (3, [.null, .null, .null, .int (nI 0), .int (bI false), .int (bI false), .int (nI 0), .int (nI 0), .int (nI 0), .int (nI 0)])) : mCn k l yX3_init wsX3_init { frames := 3, cells := 49, slots := 1024, locals := 160 } ad0 1 g sz 50 49 1024 [.ref (ad0 0)] (fun ad1 g1 => ∃ r : Nat → Option Nat, CR k ad1 g1 false 0 0 0 (fun _ => nI 0) (fun _ => 0) (fun _ => 0) (0, nI 0, nI 0, nI 0, false, 0, 1, (fun _ => 0), (fun _ _ => 0)) r) := by
  refine mOfN (cc := cX3_init) (maxL := 1) (ret := none) (by decide) rfl (Nat.le_of_ble_eq_true rfl) ?_
  intro p e s m below meth c hx hb hr hts hown hlocks hml hin hao locs hE hI ls hl
  have hl : lv_has ls 1 [(0, .ref (ad0 0))] := hl
  refine lv_aload_n hx hb dX3_init_0 rfl (lv_at hl 0 rfl) ?_
  refine W.objInit hx hb hown (hts (.methodLink RX3 1 objectInit) (by decide +kernel)) (hts (.instanceMethod objectInit) (by decide +kernel)) (hts (.code objectInit ⟨#[0xb1]⟩ 1 none) (by decide +kernel)) rfl (hl.1.trans hml.symm) rfl dX3_init_1 (Nat.le_of_ble_eq_true rfl) (Nat.le_of_ble_eq_true rfl) ?_
  show W p l e _ s m _ below meth c _ _ _ _ _ (F0 m 4 ls [])
  refine lv_aload_n hx hb dX3_init_4 rfl (lv_at hl 0 rfl) ?_
  refine m_new (ci := 2) (C := RX2) (T := TX2) (N' := 3) (fs := [.null, .null, .int (nI 0)]) (c1 := 1) (s1 := 3) hx hb hts (by decide +kernel) tyX2 tyX2_ok hown (hts (.classLink RX3 7 RX2) (by decide +kernel)) (hts (.instantiable RX2 3) (by decide +kernel)) (hts (.initialized RX2) (by decide +kernel)) hE hI rfl (fun j hj => by have h9 : j = 0 ∨ j = 1 ∨ j = 2 := (by omega); rcases h9 with rfl | rfl | rfl <;> rfl) (by omega) (by omega) (Nat.le_of_ble_eq_true rfl) (Nat.le_of_ble_eq_true rfl) dX3_init_5 (fun ad1 H hag1 hE hI => ?_)
  obtain ⟨g1, hg1⟩ : ∃ zz, zz = va_up g 1 (.inr (2, [.null, .null, .int (nI 0)])) := ⟨_, rfl⟩
  have hE : mE k ad1 2 (mA ad0 1 s.heap.size) s := hE
  replace hI : mI k ad1 2 g1 (mA ad0 1 s.heap.size) s H locs := by rw [hg1]; exact hI
  refine m_stk (show ([.ref (ad1 1), .ref (ad0 0)] : List Value) = [.ref (ad1 1), .ref (ad1 0)] from by rw [hag1 0 (by omega)]) ?_
  have m_1 : g1 0 = .inr (3, [.null, .null, .null, .int (nI 0), .int (bI false), .int (bI false), .int (nI 0), .int (nI 0), .int (nI 0), .int (nI 0)]) := by rw [hg1, va_up_ne _ _ (by omega)]; exact h0
  have m_2 : g1 1 = .inr (2, [.null, .null, .int (nI 0)]) := by rw [hg1, va_up_self]
  have hl : lv_has ls 1 [(0, .ref (ad1 0))] := by rw [hag1 0 (by omega)]; exact hl
  refine lv_dup hx hb dX3_init_8 rfl ?_
  refine m_callN (As := []) (rest := [.ref (ad1 1), .ref (ad1 0)]) (c1 := 5) (s1 := 39) ⟨hx, hb, hml, hown, hts⟩ hao hE hI (c_X2_init k l ad1 g1 _ m_2) (cwI 0 hts gX3_init_X2_init rfl rfl rfl (hts (.initialized RX2) (by decide +kernel)) (hts (.methodLink RX3 9 yX2_init) (by decide +kernel)) (hts (.instanceMethod yX2_init) (by decide +kernel)) rfl (by decide +kernel) ⟨Nat.le_of_ble_eq_true rfl, Nat.le_of_ble_eq_true rfl⟩) rfl hl.1 rfl (Nat.le_of_ble_eq_true rfl) dX3_init_9 (by omega) (by omega) ⟨(Nat.le_of_ble_eq_true rfl), (Nat.le_of_ble_eq_true rfl)⟩ (fun ad2 g2 H locs hag2 hg2 hE hI => ?_)
  have hE : mE k ad2 6 (mA ad0 1 s.heap.size) s := hE
  have hI : mI k ad2 6 g2 (mA ad0 1 s.heap.size) s H locs := hI
  refine m_stk (show ([.ref (ad1 1), .ref (ad1 0)] : List Value) = [.ref (ad2 1), .ref (ad2 0)] from by rw [hag2 0 (by omega), hag2 1 (by omega)]) ?_
  obtain ⟨w_3, hk0⟩ := hg2
  have m_4 : g2 0 = .inr (3, [.null, .null, .null, .int (nI 0), .int (bI false), .int (bI false), .int (nI 0), .int (nI 0), .int (nI 0), .int (nI 0)]) := by rw [hk0]; exact m_1
  have hl : lv_has ls 1 [(0, .ref (ad2 0))] := by rw [hag2 0 (by omega)]; exact hl
  refine m_putF (ci := 3) (C := RX3) (T := TX3) (N' := 10) (ty := .object "TapePrinter$Wire") hx hb hts (by decide +kernel) tyX3 tyX3_ok nmX3 hown hE hI 0 (by omega) m_4 rfl 0 (by decide) (hts (.fieldLink RX3 10 "TapePrinter" "wire" "LTapePrinter$Wire;") (by decide +kernel)) rfl hin rfl (by decide +kernel) rfl rfl (Nat.le_of_ble_eq_true rfl) dX3_init_12 (fun H locs hI => ?_)
  obtain ⟨g3, hg3⟩ : ∃ zz, zz = va_up g2 0 (.inr (3, [.ref (ad2 1), .null, .null, .int (nI 0), .int (bI false), .int (bI false), .int (nI 0), .int (nI 0), .int (nI 0), .int (nI 0)])) := ⟨_, rfl⟩
  replace hI : mI k ad2 6 g3 (mA ad0 1 s.heap.size) s H locs := by rw [hg3]; exact hI
  have m_5 : g3 0 = .inr (3, [.ref (ad2 1), .null, .null, .int (nI 0), .int (bI false), .int (bI false), .int (nI 0), .int (nI 0), .int (nI 0), .int (nI 0)]) := by rw [hg3, va_up_self]
  refine lv_aload_n hx hb dX3_init_15 rfl (lv_at hl 0 rfl) ?_
  refine m_new (ci := 1) (C := RX1) (T := TX1) (N' := 3) (fs := [.null, .int (nI 0), .int (nI 0)]) (c1 := 6) (s1 := 42) hx hb hts (by decide +kernel) tyX1 tyX1_ok hown (hts (.classLink RX3 16 RX1) (by decide +kernel)) (hts (.instantiable RX1 3) (by decide +kernel)) (hts (.initialized RX1) (by decide +kernel)) hE hI rfl (fun j hj => by have h9 : j = 0 ∨ j = 1 ∨ j = 2 := (by omega); rcases h9 with rfl | rfl | rfl <;> rfl) (by omega) (by omega) (Nat.le_of_ble_eq_true rfl) (Nat.le_of_ble_eq_true rfl) dX3_init_16 (fun ad3 H hag3 hE hI => ?_)
  obtain ⟨g4, hg4⟩ : ∃ zz, zz = va_up g3 6 (.inr (1, [.null, .int (nI 0), .int (nI 0)])) := ⟨_, rfl⟩
  have hE : mE k ad3 7 (mA ad0 1 s.heap.size) s := hE
  replace hI : mI k ad3 7 g4 (mA ad0 1 s.heap.size) s H locs := by rw [hg4]; exact hI
  refine m_stk (show ([.ref (ad3 6), .ref (ad2 0)] : List Value) = [.ref (ad3 6), .ref (ad3 0)] from by rw [hag3 0 (by omega)]) ?_
  have m_6 : g4 0 = .inr (3, [.ref (ad3 1), .null, .null, .int (nI 0), .int (bI false), .int (bI false), .int (nI 0), .int (nI 0), .int (nI 0), .int (nI 0)]) := by rw [hg4, va_up_ne _ _ (by omega), hag3 1 (by omega)]; exact m_5
  have m_7 : g4 6 = .inr (1, [.null, .int (nI 0), .int (nI 0)]) := by rw [hg4, va_up_self]
  have hl : lv_has ls 1 [(0, .ref (ad3 0))] := by rw [hag3 0 (by omega)]; exact hl
  refine lv_dup hx hb dX3_init_19 rfl ?_
  refine m_callN (As := []) (rest := [.ref (ad3 6), .ref (ad3 0)]) (c1 := 47) (s1 := 902) ⟨hx, hb, hml, hown, hts⟩ hao hE hI (c_X1_init k l ad3 g4 _ m_7) (cwI 0 hts gX3_init_X1_init rfl rfl rfl (hts (.initialized RX1) (by decide +kernel)) (hts (.methodLink RX3 18 yX1_init) (by decide +kernel)) (hts (.instanceMethod yX1_init) (by decide +kernel)) rfl (by decide +kernel) ⟨Nat.le_of_ble_eq_true rfl, Nat.le_of_ble_eq_true rfl⟩) rfl hl.1 rfl (Nat.le_of_ble_eq_true rfl) dX3_init_20 (by omega) (by omega) ⟨(Nat.le_of_ble_eq_true rfl), (Nat.le_of_ble_eq_true rfl)⟩ (fun ad4 g5 H locs hag4 hg5 hE hI => ?_)
  have hE : mE k ad4 48 (mA ad0 1 s.heap.size) s := hE
  have hI : mI k ad4 48 g5 (mA ad0 1 s.heap.size) s H locs := hI
  refine m_stk (show ([.ref (ad3 6), .ref (ad3 0)] : List Value) = [.ref (ad4 6), .ref (ad4 0)] from by rw [hag4 0 (by omega), hag4 6 (by omega)]) ?_
  obtain ⟨⟨rr, hsh⟩, hk1⟩ := hg5
  have m_8 : g5 0 = .inr (3, [.ref (ad4 1), .null, .null, .int (nI 0), .int (bI false), .int (bI false), .int (nI 0), .int (nI 0), .int (nI 0), .int (nI 0)]) := by rw [hk1 0 (by omega), hag4 1 (by omega)]; exact m_6
  have hl : lv_has ls 1 [(0, .ref (ad4 0))] := by rw [hag4 0 (by omega)]; exact hl
  refine m_putF (ci := 3) (C := RX3) (T := TX3) (N' := 10) (ty := .object "TapePrinter$Sheet") hx hb hts (by decide +kernel) tyX3 tyX3_ok nmX3 hown hE hI 0 (by omega) m_8 rfl 1 (by decide) (hts (.fieldLink RX3 19 "TapePrinter" "sheet" "LTapePrinter$Sheet;") (by decide +kernel)) rfl hin rfl (by decide +kernel) rfl rfl (Nat.le_of_ble_eq_true rfl) dX3_init_23 (fun H locs hI => ?_)
  obtain ⟨g6, hg6⟩ : ∃ zz, zz = va_up g5 0 (.inr (3, [.ref (ad4 1), .ref (ad4 6), .null, .int (nI 0), .int (bI false), .int (bI false), .int (nI 0), .int (nI 0), .int (nI 0), .int (nI 0)])) := ⟨_, rfl⟩
  replace hI : mI k ad4 48 g6 (mA ad0 1 s.heap.size) s H locs := by rw [hg6]; exact hI
  have m_9 : g6 0 = .inr (3, [.ref (ad4 1), .ref (ad4 6), .null, .int (nI 0), .int (bI false), .int (bI false), .int (nI 0), .int (nI 0), .int (nI 0), .int (nI 0)]) := by rw [hg6, va_up_self]
  refine lv_aload_n hx hb dX3_init_26 rfl (lv_at hl 0 rfl) ?_
  refine m_new (ci := 0) (C := RX0) (T := TX0) (N' := 2) (fs := [.null, .int (nI 0)]) (c1 := 48) (s1 := 904) hx hb hts (by decide +kernel) tyX0 tyX0_ok hown (hts (.classLink RX3 23 RX0) (by decide +kernel)) (hts (.instantiable RX0 2) (by decide +kernel)) (hts (.initialized RX0) (by decide +kernel)) hE hI rfl (fun j hj => by have h9 : j = 0 ∨ j = 1 := (by omega); rcases h9 with rfl | rfl <;> rfl) (by omega) (by omega) (Nat.le_of_ble_eq_true rfl) (Nat.le_of_ble_eq_true rfl) dX3_init_27 (fun ad5 H hag5 hE hI => ?_)
  obtain ⟨g7, hg7⟩ : ∃ zz, zz = va_up g6 48 (.inr (0, [.null, .int (nI 0)])) := ⟨_, rfl⟩
  have hE : mE k ad5 49 (mA ad0 1 s.heap.size) s := hE
  replace hI : mI k ad5 49 g7 (mA ad0 1 s.heap.size) s H locs := by rw [hg7]; exact hI
  refine m_stk (show ([.ref (ad5 48), .ref (ad4 0)] : List Value) = [.ref (ad5 48), .ref (ad5 0)] from by rw [hag5 0 (by omega)]) ?_
  have m_10 : g7 0 = .inr (3, [.ref (ad5 1), .ref (ad5 6), .null, .int (nI 0), .int (bI false), .int (bI false), .int (nI 0), .int (nI 0), .int (nI 0), .int (nI 0)]) := by rw [hg7, va_up_ne _ _ (by omega), hag5 1 (by omega), hag5 6 (by omega)]; exact m_9
  have m_11 : g7 48 = .inr (0, [.null, .int (nI 0)]) := by rw [hg7, va_up_self]
  have hl : lv_has ls 1 [(0, .ref (ad5 0))] := by rw [hag5 0 (by omega)]; exact hl
  refine lv_dup hx hb dX3_init_30 rfl ?_
  refine lv_bipush (v := nI 120) hx hb dX3_init_31 (by decide) ?_
  refine m_callN (As := [.int (nI 120)]) (rest := [.ref (ad5 48), .ref (ad5 0)]) (c1 := 49) (s1 := 1024) ⟨hx, hb, hml, hown, hts⟩ hao hE hI (c_X0_init k l ad5 49 g7 _ 48 120 (by omega) (by omega) m_11) (cwI 1 hts gX3_init_X0_init rfl rfl rfl (hts (.initialized RX0) (by decide +kernel)) (hts (.methodLink RX3 25 yX0_init) (by decide +kernel)) (hts (.instanceMethod yX0_init) (by decide +kernel)) rfl (by decide +kernel) ⟨Nat.le_of_ble_eq_true rfl, Nat.le_of_ble_eq_true rfl⟩) rfl hl.1 rfl (Nat.le_of_ble_eq_true rfl) dX3_init_33 (by omega) (by omega) ⟨(Nat.le_of_ble_eq_true rfl), (Nat.le_of_ble_eq_true rfl)⟩ (fun ad6 g8 H locs hag6 hg8 hE hI => ?_)
  have hE : mE k ad6 50 (mA ad0 1 s.heap.size) s := hE
  have hI : mI k ad6 50 g8 (mA ad0 1 s.heap.size) s H locs := hI
  refine m_stk (show ([.ref (ad5 48), .ref (ad5 0)] : List Value) = [.ref (ad6 48), .ref (ad6 0)] from by rw [hag6 0 (by omega), hag6 48 (by omega)]) ?_
  have m_12 : g8 0 = .inr (3, [.ref (ad6 1), .ref (ad6 6), .null, .int (nI 0), .int (bI false), .int (bI false), .int (nI 0), .int (nI 0), .int (nI 0), .int (nI 0)]) := by rw [hg8, va_up_ne _ _ (by omega), va_up_ne _ _ (by omega), hag6 1 (by omega), hag6 6 (by omega)]; exact m_10
  have m_13 : g8 48 = .inr (0, [.ref (ad6 49), .int (nI 0)]) := by rw [hg8, va_up_self]
  have m_14 : g8 49 = .inl (k.2.1.1, 120, .inl (fun _ => nI 0)) := by rw [hg8, va_up_ne _ _ (by omega), va_up_self]
  have hl : lv_has ls 1 [(0, .ref (ad6 0))] := by rw [hag6 0 (by omega)]; exact hl
  refine m_putF (ci := 3) (C := RX3) (T := TX3) (N' := 10) (ty := .object "TapePrinter$Row") hx hb hts (by decide +kernel) tyX3 tyX3_ok nmX3 hown hE hI 0 (by omega) m_12 rfl 2 (by decide) (hts (.fieldLink RX3 28 "TapePrinter" "strip" "LTapePrinter$Row;") (by decide +kernel)) rfl hin rfl (by decide +kernel) rfl rfl (Nat.le_of_ble_eq_true rfl) dX3_init_36 (fun H locs hI => ?_)
  obtain ⟨g9, hg9⟩ : ∃ zz, zz = va_up g8 0 (.inr (3, [.ref (ad6 1), .ref (ad6 6), .ref (ad6 48), .int (nI 0), .int (bI false), .int (bI false), .int (nI 0), .int (nI 0), .int (nI 0), .int (nI 0)])) := ⟨_, rfl⟩
  replace hI : mI k ad6 50 g9 (mA ad0 1 s.heap.size) s H locs := by rw [hg9]; exact hI
  have m_15 : g9 0 = .inr (3, [.ref (ad6 1), .ref (ad6 6), .ref (ad6 48), .int (nI 0), .int (bI false), .int (bI false), .int (nI 0), .int (nI 0), .int (nI 0), .int (nI 0)]) := by rw [hg9, va_up_self]
  have m_16 : g9 48 = .inr (0, [.ref (ad6 49), .int (nI 0)]) := by rw [hg9, va_up_ne _ _ (by omega)]; exact m_13
  have m_17 : g9 49 = .inl (k.2.1.1, 120, .inl (fun _ => nI 0)) := by rw [hg9, va_up_ne _ _ (by omega)]; exact m_14
  have hq5 : ∀ i, i < 6 → 0 < i → g9 i = g2 i := fun i hi h0 => by rw [hg9, va_up_ne _ _ (by omega), hg8, va_up_ne _ _ (by omega), va_up_ne _ _ (by omega), hg7, va_up_ne _ _ (by omega), hg6, va_up_ne _ _ (by omega), hk1 i (by omega), hg4, va_up_ne _ _ (by omega), hg3, va_up_ne _ _ (by omega)]
  have hq6 : ∀ i, i < 48 → 0 < i → g9 i = g5 i := fun i hi h0 => by rw [hg9, va_up_ne _ _ (by omega), hg8, va_up_ne _ _ (by omega), va_up_ne _ _ (by omega), hg7, va_up_ne _ _ (by omega), hg6, va_up_ne _ _ (by omega)]
  have hb5 : ∀ i, i < 6 → ad6 i = ad2 i := fun i hi => by rw [hag6 i (by omega), hag5 i (by omega), hag4 i (by omega), hag3 i (by omega)]
  have hb6 : ∀ i, i < 48 → ad6 i = ad4 i := fun i hi => by rw [hag6 i (by omega), hag5 i (by omega)]
  obtain ⟨v1, ⟨v2, v3⟩, ⟨v4, v5⟩⟩ := w_3
  obtain ⟨u1, u2, u3, u4⟩ := hsh
  refine m_cs (c1 := 49) (s1 := 1024) (by omega) (by omega) ?_
  exact m_nret hx hb hr hlocks (by omega) hE hI (fun i hi => by rw [hag6 i (by omega), hag5 i (by omega), hag4 i (by omega), hag3 i (by omega), hag2 i (by omega), hag1 i (by omega)]) (post := fun ad1 g1 => ∃ r : Nat → Option Nat, CR k ad1 g1 false 0 0 0 (fun _ => nI 0) (fun _ => 0) (fun _ => 0) (0, nI 0, nI 0, nI 0, false, 0, 1, (fun _ => 0), (fun _ _ => 0)) r) (⟨rr, m_15, ⟨by rw [hq5 1 (by omega) (by omega), v1, hb5 2 (by omega), hb5 4 (by omega)], ⟨by rw [hq5 2 (by omega) (by omega), v2, hb5 3 (by omega)], by rw [hq5 3 (by omega) (by omega), v3]⟩, ⟨by rw [hq5 4 (by omega) (by omega), v4, hb5 5 (by omega)], by rw [hq5 5 (by omega) (by omega), v5]⟩⟩, ⟨by rw [hq6 6 (by omega) (by omega), u1, hb6 7 (by omega)], by rw [hq6 7 (by omega) (by omega), u2], fun j hj => by rw [u3 j hj, hb6 _ (by omega)], fun j hj => ⟨⟨by rw [hq6 _ (by omega) (by omega), (u4 j hj).1.1, hb6 _ (by omega)], by rw [hq6 _ (by omega) (by omega), (u4 j hj).1.2]⟩, (u4 j hj).2⟩⟩, ⟨m_16, m_17⟩⟩) dX3_init_39
