theorem CWi.kept {k : mC} {ad : Nat → Nat} {g g1 : Nat → va_E} {play : Nat} {lat : Nat → Int32} {gar : Nat → Nat} (h : CWi k ad g play lat gar) (ho : ∀ i, 1 ≤ i → i < 6 → g1 i = g i) : CWi k ad g1 play lat gar :=
  ⟨(ho 1 (by omega) (by omega)).trans h.1, h.2.1.kept (ho 2 (by omega) (by omega)) (ho 3 (by omega) (by omega)), h.2.2.kept (ho 4 (by omega) (by omega)) (ho 5 (by omega) (by omega))⟩
def tn (x : Int32) : Nat := x.toNatClampNeg
theorem tn_nI {j : Nat} (h : j < 2147483648) : tn (nI j) = j := nI_clamp h
set_option maxHeartbeats 8000000 in
set_option maxRecDepth 100000 in
theorem c_X3_obey (k : mC) (l : Launch) (ad : Nat → Nat) (N : Nat) (g : Nat → va_E) (sz : Nat) (uns : Bool) (play rd n : Nat) (lat : Nat → Int32) (gar T : Nat → Nat) (came : Nat) (mis lost bel : Int32) (fig : Bool) (fi u : Nat) (z : Nat → Nat) (F : Nat → Nat → Nat) (r : Nat → Option Nat) (co : Nat) (hN : 50 ≤ N) (hW : CW play rd n lat gar T) (hwf : cWf (fi, u, z, F)) (hcame : came < 2147483648) (hC : CR k ad g uns play rd n lat gar T (came, mis, lost, bel, fig, fi, u, z, F) r) (hc : co < 32) : mCv k l yX3_obey wsX3_obey { frames := 3, cells := 0, slots := 0, locals := 63 } ad N g sz [.ref (ad 0), .int (nI co)] (fun g1 => CR k ad g1 uns play rd n lat gar T (yOb cNl cFull cAdd uns co (came, mis, lost, bel, fig, fi, u, z, F)) r ∧ ∀ i, 50 ≤ i → g1 i = g i) := by
  refine mOf (Qc := fun z9 => va_Qv (fun g1 => CR k ad g1 uns play rd n lat gar T (yOb cNl cFull cAdd uns co (came, mis, lost, bel, fig, fi, u, z, F)) r ∧ ∀ i, 50 ≤ i → g1 i = g i) (mB k ad N) (mA ad N z9)) (cc := cX3_obey) (maxL := 3) (ret := none) (by decide) rfl (Nat.le_of_ble_eq_true rfl) ?_
  intro p e s m below meth c hx hb hr hts hown hlocks hml hin hE hI ls hl
  have hl : lv_has ls 3 [(0, .ref (ad 0)), (1, .int (nI co))] := hl
  have h0 : g 0 = .inr (3, [.ref (ad 1), .ref (ad 6), .ref (ad 48), .int (nI rd), .int (bI fig), .int (bI uns), .int (nI came), .int mis, .int lost, .int bel]) := hC.1
  have hWi : CWi k ad g play lat gar := hC.2.1
  have hSh : CSh k ad g fi u z F r := hC.2.2.1
  have h48 : g 48 = .inr (0, [.ref (ad 49), .int (nI n)]) := hC.2.2.2.1
  have h49 : g 49 = .inl (k.2.1.1, 120, .inl (fun j => nI (T j))) := hC.2.2.2.2
  have hr48 : CRow k ad g 48 120 n (fun j => nI (T j)) := ⟨h48, h49⟩
  have h1 := hWi.1
  have h6 : g 6 = .inr (1, [.ref (ad 7), .int (nI fi), .int (nI u)]) := hSh.1
  obtain ⟨hplay, hrd, hn, hgar, hT, hlat⟩ := id hW
  have hfi : fi < 20 := hwf.1
  have hu0 : 0 < u := hwf.2.1
  have hu : u ≤ 20 := hwf.2.2
  refine lv_iload_n hx hb dX3_obey_0 rfl (lv_at hl 1 rfl) ?_
  refine lv_aload_n hx hb dX3_obey_1 rfl (lv_at hl 0 rfl) ?_
  refine m_get (ci := 3) (C := RX3) (T := TX3) (N' := 10) hx hb hts (by decide +kernel) hown hE hI 0 (by omega) h0 rfl 4 (by decide) (hts (.fieldLink RX3 61 "TapePrinter" "figures" "Z") (by decide +kernel)) rfl dX3_obey_2 ?_
  refine m_callSi (As := [.int (nI co), .int (bI fig)]) (rest := []) ⟨hx, hb, hml, hown, hts⟩ hE hI (c_X3_characterOf k l ad N g _ co fig (by omega)) (va_cwS 2 hts gX3_obey_X3_characterOf rfl rfl rfl (by decide +kernel) ⟨Nat.le_of_ble_eq_true rfl, Nat.le_of_ble_eq_true rfl⟩) rfl hl.1 rfl (Nat.le_of_ble_eq_true rfl) dX3_obey_5 ⟨Nat.le_of_ble_eq_true rfl, Nat.le_of_ble_eq_true rfl⟩ (m_deti (fun H locs hI => ?_))
  refine lv_istore_n (lv' := [(2, .int (nI (chF co fig))), (0, .ref (ad 0)), (1, .int (nI co))]) hx hb dX3_obey_8 rfl hl (by decide) rfl (fun ls hl => ?_)
  have hch := chF_le co hc fig
  refine lv_iload_n hx hb dX3_obey_9 rfl (lv_at hl 0 rfl) ?_
  refine lv_bipush (v := nI 54) hx hb dX3_obey_10 (by decide) ?_
  refine m_cneN (tgt := 25) hx hb (by omega) (by omega) dX3_obey_12 (by decide) (fun c_12 => ?_) (fun c_12 => ?_)
  · refine lv_iload_n hx hb dX3_obey_25 rfl (lv_at hl 0 rfl) ?_
    refine m_zeqN (tgt := 50) hx hb (by omega) dX3_obey_26 (by decide) (fun c_26 => ?_) (fun c_26 => ?_)
    · have hpo : pOb cNl cFull cAdd (chF co fig) (fi, u, z, F) = (fi, u, z, F) := by unfold pOb; rw [if_neg c_12, if_pos c_26]
      have hlo2 : lOb cFull (chF co fig) (fi, u, z, F) lost = lost := by unfold lOb; rw [if_neg c_12, if_pos c_26]
      refine lv_iload_n hx hb dX3_obey_50 rfl (lv_at hl 2 rfl) ?_
      refine lv_bipush (v := nI 8) hx hb dX3_obey_51 (by decide) ?_
      refine m_cneN (tgt := 66) hx hb (by omega) (by omega) dX3_obey_53 (by decide) (fun c_53 => ?_) (fun c_53 => ?_)
      · refine lv_aload_n hx hb dX3_obey_66 rfl (lv_at hl 1 rfl) ?_
        refine lv_aload_n hx hb dX3_obey_67 rfl (lv_at hl 1 rfl) ?_
        refine lv_iload_n hx hb dX3_obey_68 rfl (lv_at hl 2 rfl) ?_
        refine lv_aload_n hx hb dX3_obey_69 rfl (lv_at hl 1 rfl) ?_
        refine m_get (ci := 3) (C := RX3) (T := TX3) (N' := 10) hx hb hts (by decide +kernel) hown hE hI 0 (by omega) h0 rfl 4 (by decide) (hts (.fieldLink RX3 61 "TapePrinter" "figures" "Z") (by decide +kernel)) rfl dX3_obey_70 ?_
        refine m_callVi (As := [.int (nI co), .int (bI fig)]) (rest := [.ref (ad 0)]) ⟨hx, hb, hml, hown, hts⟩ hE hI (c_X3_figuresBehind k l ad N g _ rd fig uns came mis lost bel  co fig (by omega) h0  (by omega)) (cwV 2 hts gX3_obey_X3_figuresBehind rfl rfl rfl (by decide +kernel) ⟨Nat.le_of_ble_eq_true rfl, Nat.le_of_ble_eq_true rfl⟩) (i := 0) (by omega) h0 rfl rfl hl.1 rfl (Nat.le_of_ble_eq_true rfl) dX3_obey_73 ⟨Nat.le_of_ble_eq_true rfl, Nat.le_of_ble_eq_true rfl⟩ (m_deti (fun H locs hI => ?_))
        refine m_put (ci := 3) (C := RX3) (T := TX3) (N' := 10) (ty := .boolean) hx hb hts (by decide +kernel) tyX3 tyX3_ok nmX3 hown hE hI 0 (by omega) h0 rfl 4 (by decide) (hts (.fieldLink RX3 61 "TapePrinter" "figures" "Z") (by decide +kernel)) rfl (by decide +kernel) (bI_nar _) (bI_fit _) (Nat.le_of_ble_eq_true rfl) dX3_obey_76 (fun H locs hI => ?_)
        obtain ⟨g1, hg1⟩ : ∃ zz, zz = va_up g 0 (.inr (3, [.ref (ad 1), .ref (ad 6), .ref (ad 48), .int (nI rd), .int (bI (fb uns co fig)), .int (bI uns), .int (nI came), .int mis, .int lost, .int bel])) := ⟨_, rfl⟩
        replace hI : mI k ad N g1 (mA ad N s.heap.size) s H locs := by rw [hg1]; exact hI
        have m_1 : g1 0 = .inr (3, [.ref (ad 1), .ref (ad 6), .ref (ad 48), .int (nI rd), .int (bI (fb uns co fig)), .int (bI uns), .int (nI came), .int mis, .int lost, .int bel]) := by rw [hg1, va_up_self]
        have m_2 : g1 1 = .inr (2, [.ref (ad 2), .ref (ad 4), .int (nI play)]) := by rw [hg1, va_up_ne _ _ (by omega)]; exact h1
        have m_3 : g1 48 = .inr (0, [.ref (ad 49), .int (nI n)]) := by rw [hg1, va_up_ne _ _ (by omega)]; exact h48
        have m_4 : g1 49 = .inl (k.2.1.1, 120, .inl (fun j => nI (T j))) := by rw [hg1, va_up_ne _ _ (by omega)]; exact h49
        have m_5 : g1 6 = .inr (1, [.ref (ad 7), .int (nI fi), .int (nI u)]) := by rw [hg1, va_up_ne _ _ (by omega)]; exact h6
        have hy : yOb cNl cFull cAdd uns co (came, mis, lost, bel, fig, fi, u, z, F) = (came, mis, lost, bel, fb uns co fig, (fi, u, z, F)) := by
          show (came, mis, lOb cFull (chF co fig) (fi, u, z, F) lost, (if co = 8 then bel + 1 else bel), fb uns co fig, pOb cNl cFull cAdd (chF co fig) (fi, u, z, F)) = _
          rw [hpo, hlo2, if_neg c_53]
        have hk9 : ∀ i, i ≠ 0 → g1 i = g i := fun i hi => by rw [hg1, va_up_ne _ _ hi]
        have hS9 : CSh k ad g1 fi u z F r := hSh.kept (fun i h1 h2 => hk9 i (by omega))
        have hk8 : ∀ i, (1 ≤ i ∧ i < 6) ∨ 48 ≤ i → g1 i = g i := fun i hi => hk9 i (by omega)
        exact m_vret hx hb hr hlocks hI (⟨by rw [hy]; exact ⟨m_1, hWi.kept (fun i h1 h2 => hk8 i (by omega)), hS9, ⟨m_3, m_4⟩⟩, fun i hi => hk8 i (by omega)⟩) dX3_obey_79
      · refine lv_aload_n hx hb dX3_obey_56 rfl (lv_at hl 1 rfl) ?_
        refine lv_dup hx hb dX3_obey_57 rfl ?_
        refine m_get (ci := 3) (C := RX3) (T := TX3) (N' := 10) hx hb hts (by decide +kernel) hown hE hI 0 (by omega) h0 rfl 9 (by decide) (hts (.fieldLink RX3 204 "TapePrinter" "bells" "I") (by decide +kernel)) rfl dX3_obey_58 ?_
        refine lv_iconst (v := nI 1) hx hb dX3_obey_61 (by decide) ?_
        refine lv_iadd hx hb dX3_obey_62 ?_
        refine m_top (show bel + (nI 1) = bel + 1 from rfl) ?_
        refine m_put (ci := 3) (C := RX3) (T := TX3) (N' := 10) (ty := .int) hx hb hts (by decide +kernel) tyX3 tyX3_ok nmX3 hown hE hI 0 (by omega) h0 rfl 9 (by decide) (hts (.fieldLink RX3 204 "TapePrinter" "bells" "I") (by decide +kernel)) rfl (by decide +kernel) rfl rfl (Nat.le_of_ble_eq_true rfl) dX3_obey_63 (fun H locs hI => ?_)
        obtain ⟨g2, hg2⟩ : ∃ zz, zz = va_up g 0 (.inr (3, [.ref (ad 1), .ref (ad 6), .ref (ad 48), .int (nI rd), .int (bI fig), .int (bI uns), .int (nI came), .int mis, .int lost, .int (bel + 1)])) := ⟨_, rfl⟩
        replace hI : mI k ad N g2 (mA ad N s.heap.size) s H locs := by rw [hg2]; exact hI
        have m_6 : g2 0 = .inr (3, [.ref (ad 1), .ref (ad 6), .ref (ad 48), .int (nI rd), .int (bI fig), .int (bI uns), .int (nI came), .int mis, .int lost, .int (bel + 1)]) := by rw [hg2, va_up_self]
        have m_7 : g2 1 = .inr (2, [.ref (ad 2), .ref (ad 4), .int (nI play)]) := by rw [hg2, va_up_ne _ _ (by omega)]; exact h1
        have m_8 : g2 48 = .inr (0, [.ref (ad 49), .int (nI n)]) := by rw [hg2, va_up_ne _ _ (by omega)]; exact h48
        have m_9 : g2 49 = .inl (k.2.1.1, 120, .inl (fun j => nI (T j))) := by rw [hg2, va_up_ne _ _ (by omega)]; exact h49
        have m_10 : g2 6 = .inr (1, [.ref (ad 7), .int (nI fi), .int (nI u)]) := by rw [hg2, va_up_ne _ _ (by omega)]; exact h6
        refine lv_aload_n hx hb dX3_obey_66 rfl (lv_at hl 1 rfl) ?_
        refine lv_aload_n hx hb dX3_obey_67 rfl (lv_at hl 1 rfl) ?_
        refine lv_iload_n hx hb dX3_obey_68 rfl (lv_at hl 2 rfl) ?_
        refine lv_aload_n hx hb dX3_obey_69 rfl (lv_at hl 1 rfl) ?_
        refine m_get (ci := 3) (C := RX3) (T := TX3) (N' := 10) hx hb hts (by decide +kernel) hown hE hI 0 (by omega) m_6 rfl 4 (by decide) (hts (.fieldLink RX3 61 "TapePrinter" "figures" "Z") (by decide +kernel)) rfl dX3_obey_70 ?_
        refine m_callVi (As := [.int (nI co), .int (bI fig)]) (rest := [.ref (ad 0)]) ⟨hx, hb, hml, hown, hts⟩ hE hI (c_X3_figuresBehind k l ad N g2 _ rd fig uns came mis lost (bel + 1)  co fig (by omega) m_6  (by omega)) (cwV 2 hts gX3_obey_X3_figuresBehind rfl rfl rfl (by decide +kernel) ⟨Nat.le_of_ble_eq_true rfl, Nat.le_of_ble_eq_true rfl⟩) (i := 0) (by omega) m_6 rfl rfl hl.1 rfl (Nat.le_of_ble_eq_true rfl) dX3_obey_73 ⟨Nat.le_of_ble_eq_true rfl, Nat.le_of_ble_eq_true rfl⟩ (m_deti (fun H locs hI => ?_))
        refine m_put (ci := 3) (C := RX3) (T := TX3) (N' := 10) (ty := .boolean) hx hb hts (by decide +kernel) tyX3 tyX3_ok nmX3 hown hE hI 0 (by omega) m_6 rfl 4 (by decide) (hts (.fieldLink RX3 61 "TapePrinter" "figures" "Z") (by decide +kernel)) rfl (by decide +kernel) (bI_nar _) (bI_fit _) (Nat.le_of_ble_eq_true rfl) dX3_obey_76 (fun H locs hI => ?_)
        obtain ⟨g3, hg3⟩ : ∃ zz, zz = va_up g2 0 (.inr (3, [.ref (ad 1), .ref (ad 6), .ref (ad 48), .int (nI rd), .int (bI (fb uns co fig)), .int (bI uns), .int (nI came), .int mis, .int lost, .int (bel + 1)])) := ⟨_, rfl⟩
        replace hI : mI k ad N g3 (mA ad N s.heap.size) s H locs := by rw [hg3]; exact hI
        have m_11 : g3 0 = .inr (3, [.ref (ad 1), .ref (ad 6), .ref (ad 48), .int (nI rd), .int (bI (fb uns co fig)), .int (bI uns), .int (nI came), .int mis, .int lost, .int (bel + 1)]) := by rw [hg3, va_up_self]
        have m_12 : g3 1 = .inr (2, [.ref (ad 2), .ref (ad 4), .int (nI play)]) := by rw [hg3, va_up_ne _ _ (by omega)]; exact m_7
        have m_13 : g3 48 = .inr (0, [.ref (ad 49), .int (nI n)]) := by rw [hg3, va_up_ne _ _ (by omega)]; exact m_8
        have m_14 : g3 49 = .inl (k.2.1.1, 120, .inl (fun j => nI (T j))) := by rw [hg3, va_up_ne _ _ (by omega)]; exact m_9
        have m_15 : g3 6 = .inr (1, [.ref (ad 7), .int (nI fi), .int (nI u)]) := by rw [hg3, va_up_ne _ _ (by omega)]; exact m_10
        have hy : yOb cNl cFull cAdd uns co (came, mis, lost, bel, fig, fi, u, z, F) = (came, mis, lost, bel + 1, fb uns co fig, (fi, u, z, F)) := by
          show (came, mis, lOb cFull (chF co fig) (fi, u, z, F) lost, (if co = 8 then bel + 1 else bel), fb uns co fig, pOb cNl cFull cAdd (chF co fig) (fi, u, z, F)) = _
          rw [hpo, hlo2, if_pos c_53]
        have hk9 : ∀ i, i ≠ 0 → g3 i = g i := fun i hi => by rw [hg3, va_up_ne _ _ hi, hg2, va_up_ne _ _ hi]
        have hS9 : CSh k ad g3 fi u z F r := hSh.kept (fun i h1 h2 => hk9 i (by omega))
        have hk8 : ∀ i, (1 ≤ i ∧ i < 6) ∨ 48 ≤ i → g3 i = g i := fun i hi => hk9 i (by omega)
        exact m_vret hx hb hr hlocks hI (⟨by rw [hy]; exact ⟨m_11, hWi.kept (fun i h1 h2 => hk8 i (by omega)), hS9, ⟨m_13, m_14⟩⟩, fun i hi => hk8 i (by omega)⟩) dX3_obey_79
    · by_cases hz8 : z (slt fi (u - 1)) = 40
      · have hz9 := hz8
        have hfull : cFull (fi, u, z, F) = true := decide_eq_true hz8
        have hpo : pOb cNl cFull cAdd (chF co fig) (fi, u, z, F) = (fi, u, z, F) := by unfold pOb; rw [if_neg c_12, if_neg c_26, hfull] <;> rfl
        have hlo2 : lOb cFull (chF co fig) (fi, u, z, F) lost = lost + 1 := by unfold lOb; rw [if_neg c_12, if_neg c_26, hfull] <;> rfl
        refine lv_aload_n hx hb dX3_obey_29 rfl (lv_at hl 1 rfl) ?_
        refine m_get (ci := 3) (C := RX3) (T := TX3) (N' := 10) hx hb hts (by decide +kernel) hown hE hI 0 (by omega) h0 rfl 1 (by decide) (hts (.fieldLink RX3 19 "TapePrinter" "sheet" "LTapePrinter$Sheet;") (by decide +kernel)) rfl dX3_obey_30 ?_
        refine lv_iload_n hx hb dX3_obey_33 rfl (lv_at hl 0 rfl) ?_
        refine m_callVi (As := [.int (nI (chF co fig))]) (rest := []) ⟨hx, hb, hml, hown, hts⟩ hE hI (c_X1_add_out k l ad N g _ fi u z F r (chF co fig) (by omega) hfi hu hu0 hSh hz9) (cwV 1 hts gX3_obey_X1_add rfl rfl rfl (by decide +kernel) ⟨Nat.le_of_ble_eq_true rfl, Nat.le_of_ble_eq_true rfl⟩) (i := 6) (by omega) h6 rfl rfl hl.1 rfl (Nat.le_of_ble_eq_true rfl) dX3_obey_34 ⟨Nat.le_of_ble_eq_true rfl, Nat.le_of_ble_eq_true rfl⟩ (m_deti (fun H locs hI => ?_))
        refine m_zneB (tgt := 50) hx hb dX3_obey_37 (by decide) (fun c => absurd c (by decide)) (fun c_37 => ?_)
        refine lv_aload_n hx hb dX3_obey_40 rfl (lv_at hl 1 rfl) ?_
        refine lv_dup hx hb dX3_obey_41 rfl ?_
        refine m_get (ci := 3) (C := RX3) (T := TX3) (N' := 10) hx hb hts (by decide +kernel) hown hE hI 0 (by omega) h0 rfl 8 (by decide) (hts (.fieldLink RX3 201 "TapePrinter" "lost" "I") (by decide +kernel)) rfl dX3_obey_42 ?_
        refine lv_iconst (v := nI 1) hx hb dX3_obey_45 (by decide) ?_
        refine lv_iadd hx hb dX3_obey_46 ?_
        refine m_top (show lost + (nI 1) = lost + 1 from rfl) ?_
        refine m_put (ci := 3) (C := RX3) (T := TX3) (N' := 10) (ty := .int) hx hb hts (by decide +kernel) tyX3 tyX3_ok nmX3 hown hE hI 0 (by omega) h0 rfl 8 (by decide) (hts (.fieldLink RX3 201 "TapePrinter" "lost" "I") (by decide +kernel)) rfl (by decide +kernel) rfl rfl (Nat.le_of_ble_eq_true rfl) dX3_obey_47 (fun H locs hI => ?_)
        obtain ⟨g4, hg4⟩ : ∃ zz, zz = va_up g 0 (.inr (3, [.ref (ad 1), .ref (ad 6), .ref (ad 48), .int (nI rd), .int (bI fig), .int (bI uns), .int (nI came), .int mis, .int (lost + 1), .int bel])) := ⟨_, rfl⟩
        replace hI : mI k ad N g4 (mA ad N s.heap.size) s H locs := by rw [hg4]; exact hI
        have m_16 : g4 0 = .inr (3, [.ref (ad 1), .ref (ad 6), .ref (ad 48), .int (nI rd), .int (bI fig), .int (bI uns), .int (nI came), .int mis, .int (lost + 1), .int bel]) := by rw [hg4, va_up_self]
        have m_17 : g4 1 = .inr (2, [.ref (ad 2), .ref (ad 4), .int (nI play)]) := by rw [hg4, va_up_ne _ _ (by omega)]; exact h1
        have m_18 : g4 48 = .inr (0, [.ref (ad 49), .int (nI n)]) := by rw [hg4, va_up_ne _ _ (by omega)]; exact h48
        have m_19 : g4 49 = .inl (k.2.1.1, 120, .inl (fun j => nI (T j))) := by rw [hg4, va_up_ne _ _ (by omega)]; exact h49
        have m_20 : g4 6 = .inr (1, [.ref (ad 7), .int (nI fi), .int (nI u)]) := by rw [hg4, va_up_ne _ _ (by omega)]; exact h6
        refine lv_iload_n hx hb dX3_obey_50 rfl (lv_at hl 2 rfl) ?_
        refine lv_bipush (v := nI 8) hx hb dX3_obey_51 (by decide) ?_
        refine m_cneN (tgt := 66) hx hb (by omega) (by omega) dX3_obey_53 (by decide) (fun c_53 => ?_) (fun c_53 => ?_)
        · refine lv_aload_n hx hb dX3_obey_66 rfl (lv_at hl 1 rfl) ?_
          refine lv_aload_n hx hb dX3_obey_67 rfl (lv_at hl 1 rfl) ?_
          refine lv_iload_n hx hb dX3_obey_68 rfl (lv_at hl 2 rfl) ?_
          refine lv_aload_n hx hb dX3_obey_69 rfl (lv_at hl 1 rfl) ?_
          refine m_get (ci := 3) (C := RX3) (T := TX3) (N' := 10) hx hb hts (by decide +kernel) hown hE hI 0 (by omega) m_16 rfl 4 (by decide) (hts (.fieldLink RX3 61 "TapePrinter" "figures" "Z") (by decide +kernel)) rfl dX3_obey_70 ?_
          refine m_callVi (As := [.int (nI co), .int (bI fig)]) (rest := [.ref (ad 0)]) ⟨hx, hb, hml, hown, hts⟩ hE hI (c_X3_figuresBehind k l ad N g4 _ rd fig uns came mis (lost + 1) bel  co fig (by omega) m_16  (by omega)) (cwV 2 hts gX3_obey_X3_figuresBehind rfl rfl rfl (by decide +kernel) ⟨Nat.le_of_ble_eq_true rfl, Nat.le_of_ble_eq_true rfl⟩) (i := 0) (by omega) m_16 rfl rfl hl.1 rfl (Nat.le_of_ble_eq_true rfl) dX3_obey_73 ⟨Nat.le_of_ble_eq_true rfl, Nat.le_of_ble_eq_true rfl⟩ (m_deti (fun H locs hI => ?_))
          refine m_put (ci := 3) (C := RX3) (T := TX3) (N' := 10) (ty := .boolean) hx hb hts (by decide +kernel) tyX3 tyX3_ok nmX3 hown hE hI 0 (by omega) m_16 rfl 4 (by decide) (hts (.fieldLink RX3 61 "TapePrinter" "figures" "Z") (by decide +kernel)) rfl (by decide +kernel) (bI_nar _) (bI_fit _) (Nat.le_of_ble_eq_true rfl) dX3_obey_76 (fun H locs hI => ?_)
          obtain ⟨g5, hg5⟩ : ∃ zz, zz = va_up g4 0 (.inr (3, [.ref (ad 1), .ref (ad 6), .ref (ad 48), .int (nI rd), .int (bI (fb uns co fig)), .int (bI uns), .int (nI came), .int mis, .int (lost + 1), .int bel])) := ⟨_, rfl⟩
          replace hI : mI k ad N g5 (mA ad N s.heap.size) s H locs := by rw [hg5]; exact hI
          have m_21 : g5 0 = .inr (3, [.ref (ad 1), .ref (ad 6), .ref (ad 48), .int (nI rd), .int (bI (fb uns co fig)), .int (bI uns), .int (nI came), .int mis, .int (lost + 1), .int bel]) := by rw [hg5, va_up_self]
          have m_22 : g5 1 = .inr (2, [.ref (ad 2), .ref (ad 4), .int (nI play)]) := by rw [hg5, va_up_ne _ _ (by omega)]; exact m_17
          have m_23 : g5 48 = .inr (0, [.ref (ad 49), .int (nI n)]) := by rw [hg5, va_up_ne _ _ (by omega)]; exact m_18
          have m_24 : g5 49 = .inl (k.2.1.1, 120, .inl (fun j => nI (T j))) := by rw [hg5, va_up_ne _ _ (by omega)]; exact m_19
          have m_25 : g5 6 = .inr (1, [.ref (ad 7), .int (nI fi), .int (nI u)]) := by rw [hg5, va_up_ne _ _ (by omega)]; exact m_20
          have hy : yOb cNl cFull cAdd uns co (came, mis, lost, bel, fig, fi, u, z, F) = (came, mis, lost + 1, bel, fb uns co fig, (fi, u, z, F)) := by
            show (came, mis, lOb cFull (chF co fig) (fi, u, z, F) lost, (if co = 8 then bel + 1 else bel), fb uns co fig, pOb cNl cFull cAdd (chF co fig) (fi, u, z, F)) = _
            rw [hpo, hlo2, if_neg c_53]
          have hk9 : ∀ i, i ≠ 0 → g5 i = g i := fun i hi => by rw [hg5, va_up_ne _ _ hi, hg4, va_up_ne _ _ hi]
          have hS9 : CSh k ad g5 fi u z F r := hSh.kept (fun i h1 h2 => hk9 i (by omega))
          have hk8 : ∀ i, (1 ≤ i ∧ i < 6) ∨ 48 ≤ i → g5 i = g i := fun i hi => hk9 i (by omega)
          exact m_vret hx hb hr hlocks hI (⟨by rw [hy]; exact ⟨m_21, hWi.kept (fun i h1 h2 => hk8 i (by omega)), hS9, ⟨m_23, m_24⟩⟩, fun i hi => hk8 i (by omega)⟩) dX3_obey_79
        · refine lv_aload_n hx hb dX3_obey_56 rfl (lv_at hl 1 rfl) ?_
          refine lv_dup hx hb dX3_obey_57 rfl ?_
          refine m_get (ci := 3) (C := RX3) (T := TX3) (N' := 10) hx hb hts (by decide +kernel) hown hE hI 0 (by omega) m_16 rfl 9 (by decide) (hts (.fieldLink RX3 204 "TapePrinter" "bells" "I") (by decide +kernel)) rfl dX3_obey_58 ?_
          refine lv_iconst (v := nI 1) hx hb dX3_obey_61 (by decide) ?_
          refine lv_iadd hx hb dX3_obey_62 ?_
          refine m_top (show bel + (nI 1) = bel + 1 from rfl) ?_
          refine m_put (ci := 3) (C := RX3) (T := TX3) (N' := 10) (ty := .int) hx hb hts (by decide +kernel) tyX3 tyX3_ok nmX3 hown hE hI 0 (by omega) m_16 rfl 9 (by decide) (hts (.fieldLink RX3 204 "TapePrinter" "bells" "I") (by decide +kernel)) rfl (by decide +kernel) rfl rfl (Nat.le_of_ble_eq_true rfl) dX3_obey_63 (fun H locs hI => ?_)
          obtain ⟨g6, hg6⟩ : ∃ zz, zz = va_up g4 0 (.inr (3, [.ref (ad 1), .ref (ad 6), .ref (ad 48), .int (nI rd), .int (bI fig), .int (bI uns), .int (nI came), .int mis, .int (lost + 1), .int (bel + 1)])) := ⟨_, rfl⟩
          replace hI : mI k ad N g6 (mA ad N s.heap.size) s H locs := by rw [hg6]; exact hI
          have m_26 : g6 0 = .inr (3, [.ref (ad 1), .ref (ad 6), .ref (ad 48), .int (nI rd), .int (bI fig), .int (bI uns), .int (nI came), .int mis, .int (lost + 1), .int (bel + 1)]) := by rw [hg6, va_up_self]
          have m_27 : g6 1 = .inr (2, [.ref (ad 2), .ref (ad 4), .int (nI play)]) := by rw [hg6, va_up_ne _ _ (by omega)]; exact m_17
          have m_28 : g6 48 = .inr (0, [.ref (ad 49), .int (nI n)]) := by rw [hg6, va_up_ne _ _ (by omega)]; exact m_18
          have m_29 : g6 49 = .inl (k.2.1.1, 120, .inl (fun j => nI (T j))) := by rw [hg6, va_up_ne _ _ (by omega)]; exact m_19
          have m_30 : g6 6 = .inr (1, [.ref (ad 7), .int (nI fi), .int (nI u)]) := by rw [hg6, va_up_ne _ _ (by omega)]; exact m_20
          refine lv_aload_n hx hb dX3_obey_66 rfl (lv_at hl 1 rfl) ?_
          refine lv_aload_n hx hb dX3_obey_67 rfl (lv_at hl 1 rfl) ?_
          refine lv_iload_n hx hb dX3_obey_68 rfl (lv_at hl 2 rfl) ?_
          refine lv_aload_n hx hb dX3_obey_69 rfl (lv_at hl 1 rfl) ?_
          refine m_get (ci := 3) (C := RX3) (T := TX3) (N' := 10) hx hb hts (by decide +kernel) hown hE hI 0 (by omega) m_26 rfl 4 (by decide) (hts (.fieldLink RX3 61 "TapePrinter" "figures" "Z") (by decide +kernel)) rfl dX3_obey_70 ?_
          refine m_callVi (As := [.int (nI co), .int (bI fig)]) (rest := [.ref (ad 0)]) ⟨hx, hb, hml, hown, hts⟩ hE hI (c_X3_figuresBehind k l ad N g6 _ rd fig uns came mis (lost + 1) (bel + 1)  co fig (by omega) m_26  (by omega)) (cwV 2 hts gX3_obey_X3_figuresBehind rfl rfl rfl (by decide +kernel) ⟨Nat.le_of_ble_eq_true rfl, Nat.le_of_ble_eq_true rfl⟩) (i := 0) (by omega) m_26 rfl rfl hl.1 rfl (Nat.le_of_ble_eq_true rfl) dX3_obey_73 ⟨Nat.le_of_ble_eq_true rfl, Nat.le_of_ble_eq_true rfl⟩ (m_deti (fun H locs hI => ?_))
          refine m_put (ci := 3) (C := RX3) (T := TX3) (N' := 10) (ty := .boolean) hx hb hts (by decide +kernel) tyX3 tyX3_ok nmX3 hown hE hI 0 (by omega) m_26 rfl 4 (by decide) (hts (.fieldLink RX3 61 "TapePrinter" "figures" "Z") (by decide +kernel)) rfl (by decide +kernel) (bI_nar _) (bI_fit _) (Nat.le_of_ble_eq_true rfl) dX3_obey_76 (fun H locs hI => ?_)
          obtain ⟨g7, hg7⟩ : ∃ zz, zz = va_up g6 0 (.inr (3, [.ref (ad 1), .ref (ad 6), .ref (ad 48), .int (nI rd), .int (bI (fb uns co fig)), .int (bI uns), .int (nI came), .int mis, .int (lost + 1), .int (bel + 1)])) := ⟨_, rfl⟩
          replace hI : mI k ad N g7 (mA ad N s.heap.size) s H locs := by rw [hg7]; exact hI
          have m_31 : g7 0 = .inr (3, [.ref (ad 1), .ref (ad 6), .ref (ad 48), .int (nI rd), .int (bI (fb uns co fig)), .int (bI uns), .int (nI came), .int mis, .int (lost + 1), .int (bel + 1)]) := by rw [hg7, va_up_self]
          have m_32 : g7 1 = .inr (2, [.ref (ad 2), .ref (ad 4), .int (nI play)]) := by rw [hg7, va_up_ne _ _ (by omega)]; exact m_27
          have m_33 : g7 48 = .inr (0, [.ref (ad 49), .int (nI n)]) := by rw [hg7, va_up_ne _ _ (by omega)]; exact m_28
          have m_34 : g7 49 = .inl (k.2.1.1, 120, .inl (fun j => nI (T j))) := by rw [hg7, va_up_ne _ _ (by omega)]; exact m_29
          have m_35 : g7 6 = .inr (1, [.ref (ad 7), .int (nI fi), .int (nI u)]) := by rw [hg7, va_up_ne _ _ (by omega)]; exact m_30
          have hy : yOb cNl cFull cAdd uns co (came, mis, lost, bel, fig, fi, u, z, F) = (came, mis, lost + 1, bel + 1, fb uns co fig, (fi, u, z, F)) := by
            show (came, mis, lOb cFull (chF co fig) (fi, u, z, F) lost, (if co = 8 then bel + 1 else bel), fb uns co fig, pOb cNl cFull cAdd (chF co fig) (fi, u, z, F)) = _
            rw [hpo, hlo2, if_pos c_53]
          have hk9 : ∀ i, i ≠ 0 → g7 i = g i := fun i hi => by rw [hg7, va_up_ne _ _ hi, hg6, va_up_ne _ _ hi, hg4, va_up_ne _ _ hi]
          have hS9 : CSh k ad g7 fi u z F r := hSh.kept (fun i h1 h2 => hk9 i (by omega))
          have hk8 : ∀ i, (1 ≤ i ∧ i < 6) ∨ 48 ≤ i → g7 i = g i := fun i hi => hk9 i (by omega)
          exact m_vret hx hb hr hlocks hI (⟨by rw [hy]; exact ⟨m_31, hWi.kept (fun i h1 h2 => hk8 i (by omega)), hS9, ⟨m_33, m_34⟩⟩, fun i hi => hk8 i (by omega)⟩) dX3_obey_79
      · have hz9 : z (slt fi (u - 1)) < 40 := by have := (hSh.2.2.2 _ (slt_lt fi (u - 1))).2; omega
        have hfull : cFull (fi, u, z, F) = false := decide_eq_false hz8
        have hpo : pOb cNl cFull cAdd (chF co fig) (fi, u, z, F) = (fi, u, va_up z (slt fi (u - 1)) (z (slt fi (u - 1)) + 1), va_up F (slt fi (u - 1)) (va_up (F (slt fi (u - 1))) (z (slt fi (u - 1))) (chF co fig))) := by unfold pOb; rw [if_neg c_12, if_neg c_26, hfull] <;> rfl
        have hlo2 : lOb cFull (chF co fig) (fi, u, z, F) lost = lost := by unfold lOb; rw [if_neg c_12, if_neg c_26, hfull] <;> rfl
        refine lv_aload_n hx hb dX3_obey_29 rfl (lv_at hl 1 rfl) ?_
        refine m_get (ci := 3) (C := RX3) (T := TX3) (N' := 10) hx hb hts (by decide +kernel) hown hE hI 0 (by omega) h0 rfl 1 (by decide) (hts (.fieldLink RX3 19 "TapePrinter" "sheet" "LTapePrinter$Sheet;") (by decide +kernel)) rfl dX3_obey_30 ?_
        refine lv_iload_n hx hb dX3_obey_33 rfl (lv_at hl 0 rfl) ?_
        refine m_callVi (As := [.int (nI (chF co fig))]) (rest := []) ⟨hx, hb, hml, hown, hts⟩ hE hI (c_X1_add_in k l ad N g _ fi u z F r (chF co fig) (by omega) hfi hu hu0 hSh hz9) (cwV 1 hts gX3_obey_X1_add rfl rfl rfl (by decide +kernel) ⟨Nat.le_of_ble_eq_true rfl, Nat.le_of_ble_eq_true rfl⟩) (i := 6) (by omega) h6 rfl rfl hl.1 rfl (Nat.le_of_ble_eq_true rfl) dX3_obey_34 ⟨Nat.le_of_ble_eq_true rfl, Nat.le_of_ble_eq_true rfl⟩ (fun r9 g9 H locs hp hI => ?_)
        obtain ⟨hrr, hSg8, hkg8⟩ := hp
        subst hrr
        obtain ⟨g8, hg8⟩ : ∃ zz, zz = g9 := ⟨_, rfl⟩
        rw [← hg8] at hI hSg8 hkg8
        have m_36 : g8 0 = .inr (3, [.ref (ad 1), .ref (ad 6), .ref (ad 48), .int (nI rd), .int (bI fig), .int (bI uns), .int (nI came), .int mis, .int lost, .int bel]) := by rw [hkg8 _ (by omega)]; exact h0
        have m_37 : g8 1 = .inr (2, [.ref (ad 2), .ref (ad 4), .int (nI play)]) := by rw [hkg8 _ (by omega)]; exact h1
        have m_38 : g8 48 = .inr (0, [.ref (ad 49), .int (nI n)]) := by rw [hkg8 _ (by omega)]; exact h48
        have m_39 : g8 49 = .inl (k.2.1.1, 120, .inl (fun j => nI (T j))) := by rw [hkg8 _ (by omega)]; exact h49
        have m_40 : g8 6 = .inr (1, [.ref (ad 7), .int (nI fi), .int (nI u)]) := hSg8.1
        refine m_zneB (tgt := 50) hx hb dX3_obey_37 (by decide) (fun c_37 => ?_) (fun c => absurd c (by decide))
        refine lv_iload_n hx hb dX3_obey_50 rfl (lv_at hl 2 rfl) ?_
        refine lv_bipush (v := nI 8) hx hb dX3_obey_51 (by decide) ?_
        refine m_cneN (tgt := 66) hx hb (by omega) (by omega) dX3_obey_53 (by decide) (fun c_53 => ?_) (fun c_53 => ?_)
        · refine lv_aload_n hx hb dX3_obey_66 rfl (lv_at hl 1 rfl) ?_
          refine lv_aload_n hx hb dX3_obey_67 rfl (lv_at hl 1 rfl) ?_
          refine lv_iload_n hx hb dX3_obey_68 rfl (lv_at hl 2 rfl) ?_
          refine lv_aload_n hx hb dX3_obey_69 rfl (lv_at hl 1 rfl) ?_
          refine m_get (ci := 3) (C := RX3) (T := TX3) (N' := 10) hx hb hts (by decide +kernel) hown hE hI 0 (by omega) m_36 rfl 4 (by decide) (hts (.fieldLink RX3 61 "TapePrinter" "figures" "Z") (by decide +kernel)) rfl dX3_obey_70 ?_
          refine m_callVi (As := [.int (nI co), .int (bI fig)]) (rest := [.ref (ad 0)]) ⟨hx, hb, hml, hown, hts⟩ hE hI (c_X3_figuresBehind k l ad N g8 _ rd fig uns came mis lost bel  co fig (by omega) m_36  (by omega)) (cwV 2 hts gX3_obey_X3_figuresBehind rfl rfl rfl (by decide +kernel) ⟨Nat.le_of_ble_eq_true rfl, Nat.le_of_ble_eq_true rfl⟩) (i := 0) (by omega) m_36 rfl rfl hl.1 rfl (Nat.le_of_ble_eq_true rfl) dX3_obey_73 ⟨Nat.le_of_ble_eq_true rfl, Nat.le_of_ble_eq_true rfl⟩ (m_deti (fun H locs hI => ?_))
          refine m_put (ci := 3) (C := RX3) (T := TX3) (N' := 10) (ty := .boolean) hx hb hts (by decide +kernel) tyX3 tyX3_ok nmX3 hown hE hI 0 (by omega) m_36 rfl 4 (by decide) (hts (.fieldLink RX3 61 "TapePrinter" "figures" "Z") (by decide +kernel)) rfl (by decide +kernel) (bI_nar _) (bI_fit _) (Nat.le_of_ble_eq_true rfl) dX3_obey_76 (fun H locs hI => ?_)
          obtain ⟨g9, hg9⟩ : ∃ zz, zz = va_up g8 0 (.inr (3, [.ref (ad 1), .ref (ad 6), .ref (ad 48), .int (nI rd), .int (bI (fb uns co fig)), .int (bI uns), .int (nI came), .int mis, .int lost, .int bel])) := ⟨_, rfl⟩
          replace hI : mI k ad N g9 (mA ad N s.heap.size) s H locs := by rw [hg9]; exact hI
          have m_41 : g9 0 = .inr (3, [.ref (ad 1), .ref (ad 6), .ref (ad 48), .int (nI rd), .int (bI (fb uns co fig)), .int (bI uns), .int (nI came), .int mis, .int lost, .int bel]) := by rw [hg9, va_up_self]
          have m_42 : g9 1 = .inr (2, [.ref (ad 2), .ref (ad 4), .int (nI play)]) := by rw [hg9, va_up_ne _ _ (by omega)]; exact m_37
          have m_43 : g9 48 = .inr (0, [.ref (ad 49), .int (nI n)]) := by rw [hg9, va_up_ne _ _ (by omega)]; exact m_38
          have m_44 : g9 49 = .inl (k.2.1.1, 120, .inl (fun j => nI (T j))) := by rw [hg9, va_up_ne _ _ (by omega)]; exact m_39
          have m_45 : g9 6 = .inr (1, [.ref (ad 7), .int (nI fi), .int (nI u)]) := by rw [hg9, va_up_ne _ _ (by omega)]; exact m_40
          have hy : yOb cNl cFull cAdd uns co (came, mis, lost, bel, fig, fi, u, z, F) = (came, mis, lost, bel, fb uns co fig, (fi, u, va_up z (slt fi (u - 1)) (z (slt fi (u - 1)) + 1), va_up F (slt fi (u - 1)) (va_up (F (slt fi (u - 1))) (z (slt fi (u - 1))) (chF co fig)))) := by
            show (came, mis, lOb cFull (chF co fig) (fi, u, z, F) lost, (if co = 8 then bel + 1 else bel), fb uns co fig, pOb cNl cFull cAdd (chF co fig) (fi, u, z, F)) = _
            rw [hpo, hlo2, if_neg c_53]
          have hk9 : ∀ i, i ≠ 0 → g9 i = g8 i := fun i hi => by rw [hg9, va_up_ne _ _ hi]
          have hS9 : CSh k ad g9 fi u (va_up z (slt fi (u - 1)) (z (slt fi (u - 1)) + 1)) (va_up F (slt fi (u - 1)) (va_up (F (slt fi (u - 1))) (z (slt fi (u - 1))) (chF co fig))) r := hSg8.kept (fun i h1 h2 => hk9 i (by omega))
          have hk8 : ∀ i, (1 ≤ i ∧ i < 6) ∨ 48 ≤ i → g9 i = g i := fun i hi => by rw [hk9 i (by omega)]; exact hkg8 i (by omega)
          exact m_vret hx hb hr hlocks hI (⟨by rw [hy]; exact ⟨m_41, hWi.kept (fun i h1 h2 => hk8 i (by omega)), hS9, ⟨m_43, m_44⟩⟩, fun i hi => hk8 i (by omega)⟩) dX3_obey_79
        · refine lv_aload_n hx hb dX3_obey_56 rfl (lv_at hl 1 rfl) ?_
          refine lv_dup hx hb dX3_obey_57 rfl ?_
          refine m_get (ci := 3) (C := RX3) (T := TX3) (N' := 10) hx hb hts (by decide +kernel) hown hE hI 0 (by omega) m_36 rfl 9 (by decide) (hts (.fieldLink RX3 204 "TapePrinter" "bells" "I") (by decide +kernel)) rfl dX3_obey_58 ?_
          refine lv_iconst (v := nI 1) hx hb dX3_obey_61 (by decide) ?_
          refine lv_iadd hx hb dX3_obey_62 ?_
          refine m_top (show bel + (nI 1) = bel + 1 from rfl) ?_
          refine m_put (ci := 3) (C := RX3) (T := TX3) (N' := 10) (ty := .int) hx hb hts (by decide +kernel) tyX3 tyX3_ok nmX3 hown hE hI 0 (by omega) m_36 rfl 9 (by decide) (hts (.fieldLink RX3 204 "TapePrinter" "bells" "I") (by decide +kernel)) rfl (by decide +kernel) rfl rfl (Nat.le_of_ble_eq_true rfl) dX3_obey_63 (fun H locs hI => ?_)
          obtain ⟨g10, hg10⟩ : ∃ zz, zz = va_up g8 0 (.inr (3, [.ref (ad 1), .ref (ad 6), .ref (ad 48), .int (nI rd), .int (bI fig), .int (bI uns), .int (nI came), .int mis, .int lost, .int (bel + 1)])) := ⟨_, rfl⟩
          replace hI : mI k ad N g10 (mA ad N s.heap.size) s H locs := by rw [hg10]; exact hI
          have m_46 : g10 0 = .inr (3, [.ref (ad 1), .ref (ad 6), .ref (ad 48), .int (nI rd), .int (bI fig), .int (bI uns), .int (nI came), .int mis, .int lost, .int (bel + 1)]) := by rw [hg10, va_up_self]
          have m_47 : g10 1 = .inr (2, [.ref (ad 2), .ref (ad 4), .int (nI play)]) := by rw [hg10, va_up_ne _ _ (by omega)]; exact m_37
          have m_48 : g10 48 = .inr (0, [.ref (ad 49), .int (nI n)]) := by rw [hg10, va_up_ne _ _ (by omega)]; exact m_38
          have m_49 : g10 49 = .inl (k.2.1.1, 120, .inl (fun j => nI (T j))) := by rw [hg10, va_up_ne _ _ (by omega)]; exact m_39
          have m_50 : g10 6 = .inr (1, [.ref (ad 7), .int (nI fi), .int (nI u)]) := by rw [hg10, va_up_ne _ _ (by omega)]; exact m_40
          refine lv_aload_n hx hb dX3_obey_66 rfl (lv_at hl 1 rfl) ?_
          refine lv_aload_n hx hb dX3_obey_67 rfl (lv_at hl 1 rfl) ?_
          refine lv_iload_n hx hb dX3_obey_68 rfl (lv_at hl 2 rfl) ?_
          refine lv_aload_n hx hb dX3_obey_69 rfl (lv_at hl 1 rfl) ?_
          refine m_get (ci := 3) (C := RX3) (T := TX3) (N' := 10) hx hb hts (by decide +kernel) hown hE hI 0 (by omega) m_46 rfl 4 (by decide) (hts (.fieldLink RX3 61 "TapePrinter" "figures" "Z") (by decide +kernel)) rfl dX3_obey_70 ?_
          refine m_callVi (As := [.int (nI co), .int (bI fig)]) (rest := [.ref (ad 0)]) ⟨hx, hb, hml, hown, hts⟩ hE hI (c_X3_figuresBehind k l ad N g10 _ rd fig uns came mis lost (bel + 1)  co fig (by omega) m_46  (by omega)) (cwV 2 hts gX3_obey_X3_figuresBehind rfl rfl rfl (by decide +kernel) ⟨Nat.le_of_ble_eq_true rfl, Nat.le_of_ble_eq_true rfl⟩) (i := 0) (by omega) m_46 rfl rfl hl.1 rfl (Nat.le_of_ble_eq_true rfl) dX3_obey_73 ⟨Nat.le_of_ble_eq_true rfl, Nat.le_of_ble_eq_true rfl⟩ (m_deti (fun H locs hI => ?_))
          refine m_put (ci := 3) (C := RX3) (T := TX3) (N' := 10) (ty := .boolean) hx hb hts (by decide +kernel) tyX3 tyX3_ok nmX3 hown hE hI 0 (by omega) m_46 rfl 4 (by decide) (hts (.fieldLink RX3 61 "TapePrinter" "figures" "Z") (by decide +kernel)) rfl (by decide +kernel) (bI_nar _) (bI_fit _) (Nat.le_of_ble_eq_true rfl) dX3_obey_76 (fun H locs hI => ?_)
          obtain ⟨g11, hg11⟩ : ∃ zz, zz = va_up g10 0 (.inr (3, [.ref (ad 1), .ref (ad 6), .ref (ad 48), .int (nI rd), .int (bI (fb uns co fig)), .int (bI uns), .int (nI came), .int mis, .int lost, .int (bel + 1)])) := ⟨_, rfl⟩
          replace hI : mI k ad N g11 (mA ad N s.heap.size) s H locs := by rw [hg11]; exact hI
          have m_51 : g11 0 = .inr (3, [.ref (ad 1), .ref (ad 6), .ref (ad 48), .int (nI rd), .int (bI (fb uns co fig)), .int (bI uns), .int (nI came), .int mis, .int lost, .int (bel + 1)]) := by rw [hg11, va_up_self]
          have m_52 : g11 1 = .inr (2, [.ref (ad 2), .ref (ad 4), .int (nI play)]) := by rw [hg11, va_up_ne _ _ (by omega)]; exact m_47
          have m_53 : g11 48 = .inr (0, [.ref (ad 49), .int (nI n)]) := by rw [hg11, va_up_ne _ _ (by omega)]; exact m_48
          have m_54 : g11 49 = .inl (k.2.1.1, 120, .inl (fun j => nI (T j))) := by rw [hg11, va_up_ne _ _ (by omega)]; exact m_49
          have m_55 : g11 6 = .inr (1, [.ref (ad 7), .int (nI fi), .int (nI u)]) := by rw [hg11, va_up_ne _ _ (by omega)]; exact m_50
          have hy : yOb cNl cFull cAdd uns co (came, mis, lost, bel, fig, fi, u, z, F) = (came, mis, lost, bel + 1, fb uns co fig, (fi, u, va_up z (slt fi (u - 1)) (z (slt fi (u - 1)) + 1), va_up F (slt fi (u - 1)) (va_up (F (slt fi (u - 1))) (z (slt fi (u - 1))) (chF co fig)))) := by
            show (came, mis, lOb cFull (chF co fig) (fi, u, z, F) lost, (if co = 8 then bel + 1 else bel), fb uns co fig, pOb cNl cFull cAdd (chF co fig) (fi, u, z, F)) = _
            rw [hpo, hlo2, if_pos c_53]
          have hk9 : ∀ i, i ≠ 0 → g11 i = g8 i := fun i hi => by rw [hg11, va_up_ne _ _ hi, hg10, va_up_ne _ _ hi]
          have hS9 : CSh k ad g11 fi u (va_up z (slt fi (u - 1)) (z (slt fi (u - 1)) + 1)) (va_up F (slt fi (u - 1)) (va_up (F (slt fi (u - 1))) (z (slt fi (u - 1))) (chF co fig))) r := hSg8.kept (fun i h1 h2 => hk9 i (by omega))
          have hk8 : ∀ i, (1 ≤ i ∧ i < 6) ∨ 48 ≤ i → g11 i = g i := fun i hi => by rw [hk9 i (by omega)]; exact hkg8 i (by omega)
          exact m_vret hx hb hr hlocks hI (⟨by rw [hy]; exact ⟨m_51, hWi.kept (fun i h1 h2 => hk8 i (by omega)), hS9, ⟨m_53, m_54⟩⟩, fun i hi => hk8 i (by omega)⟩) dX3_obey_79
  · by_cases hlo : u < 20
    · have hpo : pOb cNl cFull cAdd (chF co fig) (fi, u, z, F) = (fi, u + 1, va_up z (slt fi u) 0, F) := by unfold pOb cNl; rw [if_pos c_12]; simp only []; rw [if_pos hlo]
      have hlo2 : lOb cFull (chF co fig) (fi, u, z, F) lost = lost := by unfold lOb; rw [if_pos c_12]
      refine lv_aload_n hx hb dX3_obey_15 rfl (lv_at hl 1 rfl) ?_
      refine m_get (ci := 3) (C := RX3) (T := TX3) (N' := 10) hx hb hts (by decide +kernel) hown hE hI 0 (by omega) h0 rfl 1 (by decide) (hts (.fieldLink RX3 19 "TapePrinter" "sheet" "LTapePrinter$Sheet;") (by decide +kernel)) rfl dX3_obey_16 ?_
      refine m_callVv (As := []) (rest := []) ⟨hx, hb, hml, hown, hts⟩ hE hI (c_X1_beginLine_lo k l ad N g _ fi u z F r (by omega) hfi hu hu0 hSh (by omega)) (cwV 0 hts gX3_obey_X1_beginLine rfl rfl rfl (by decide +kernel) ⟨Nat.le_of_ble_eq_true rfl, Nat.le_of_ble_eq_true rfl⟩) (i := 6) (by omega) h6 rfl rfl hl.1 rfl (Nat.le_of_ble_eq_true rfl) dX3_obey_19 ⟨Nat.le_of_ble_eq_true rfl, Nat.le_of_ble_eq_true rfl⟩ (fun g9 H locs hp hI => ?_)
      obtain ⟨hSg12, hkg12⟩ := hp
      have hI : mI k ad N g9 (mA ad N s.heap.size) s H locs := hI
      obtain ⟨g12, hg12⟩ : ∃ zz, zz = g9 := ⟨_, rfl⟩
      rw [← hg12] at hI hSg12 hkg12
      have m_56 : g12 0 = .inr (3, [.ref (ad 1), .ref (ad 6), .ref (ad 48), .int (nI rd), .int (bI fig), .int (bI uns), .int (nI came), .int mis, .int lost, .int bel]) := by rw [hkg12 _ (by omega)]; exact h0
      have m_57 : g12 1 = .inr (2, [.ref (ad 2), .ref (ad 4), .int (nI play)]) := by rw [hkg12 _ (by omega)]; exact h1
      have m_58 : g12 48 = .inr (0, [.ref (ad 49), .int (nI n)]) := by rw [hkg12 _ (by omega)]; exact h48
      have m_59 : g12 49 = .inl (k.2.1.1, 120, .inl (fun j => nI (T j))) := by rw [hkg12 _ (by omega)]; exact h49
      have m_60 : g12 6 = .inr (1, [.ref (ad 7), .int (nI fi), .int (nI (u + 1))]) := hSg12.1
      refine lv_goto (tgt := 50) hx hb dX3_obey_22 (by decide) ?_
      refine lv_iload_n hx hb dX3_obey_50 rfl (lv_at hl 2 rfl) ?_
      refine lv_bipush (v := nI 8) hx hb dX3_obey_51 (by decide) ?_
      refine m_cneN (tgt := 66) hx hb (by omega) (by omega) dX3_obey_53 (by decide) (fun c_53 => ?_) (fun c_53 => ?_)
      · refine lv_aload_n hx hb dX3_obey_66 rfl (lv_at hl 1 rfl) ?_
        refine lv_aload_n hx hb dX3_obey_67 rfl (lv_at hl 1 rfl) ?_
        refine lv_iload_n hx hb dX3_obey_68 rfl (lv_at hl 2 rfl) ?_
        refine lv_aload_n hx hb dX3_obey_69 rfl (lv_at hl 1 rfl) ?_
        refine m_get (ci := 3) (C := RX3) (T := TX3) (N' := 10) hx hb hts (by decide +kernel) hown hE hI 0 (by omega) m_56 rfl 4 (by decide) (hts (.fieldLink RX3 61 "TapePrinter" "figures" "Z") (by decide +kernel)) rfl dX3_obey_70 ?_
        refine m_callVi (As := [.int (nI co), .int (bI fig)]) (rest := [.ref (ad 0)]) ⟨hx, hb, hml, hown, hts⟩ hE hI (c_X3_figuresBehind k l ad N g12 _ rd fig uns came mis lost bel  co fig (by omega) m_56  (by omega)) (cwV 2 hts gX3_obey_X3_figuresBehind rfl rfl rfl (by decide +kernel) ⟨Nat.le_of_ble_eq_true rfl, Nat.le_of_ble_eq_true rfl⟩) (i := 0) (by omega) m_56 rfl rfl hl.1 rfl (Nat.le_of_ble_eq_true rfl) dX3_obey_73 ⟨Nat.le_of_ble_eq_true rfl, Nat.le_of_ble_eq_true rfl⟩ (m_deti (fun H locs hI => ?_))
        refine m_put (ci := 3) (C := RX3) (T := TX3) (N' := 10) (ty := .boolean) hx hb hts (by decide +kernel) tyX3 tyX3_ok nmX3 hown hE hI 0 (by omega) m_56 rfl 4 (by decide) (hts (.fieldLink RX3 61 "TapePrinter" "figures" "Z") (by decide +kernel)) rfl (by decide +kernel) (bI_nar _) (bI_fit _) (Nat.le_of_ble_eq_true rfl) dX3_obey_76 (fun H locs hI => ?_)
        obtain ⟨g13, hg13⟩ : ∃ zz, zz = va_up g12 0 (.inr (3, [.ref (ad 1), .ref (ad 6), .ref (ad 48), .int (nI rd), .int (bI (fb uns co fig)), .int (bI uns), .int (nI came), .int mis, .int lost, .int bel])) := ⟨_, rfl⟩
        replace hI : mI k ad N g13 (mA ad N s.heap.size) s H locs := by rw [hg13]; exact hI
        have m_61 : g13 0 = .inr (3, [.ref (ad 1), .ref (ad 6), .ref (ad 48), .int (nI rd), .int (bI (fb uns co fig)), .int (bI uns), .int (nI came), .int mis, .int lost, .int bel]) := by rw [hg13, va_up_self]
        have m_62 : g13 1 = .inr (2, [.ref (ad 2), .ref (ad 4), .int (nI play)]) := by rw [hg13, va_up_ne _ _ (by omega)]; exact m_57
        have m_63 : g13 48 = .inr (0, [.ref (ad 49), .int (nI n)]) := by rw [hg13, va_up_ne _ _ (by omega)]; exact m_58
        have m_64 : g13 49 = .inl (k.2.1.1, 120, .inl (fun j => nI (T j))) := by rw [hg13, va_up_ne _ _ (by omega)]; exact m_59
        have m_65 : g13 6 = .inr (1, [.ref (ad 7), .int (nI fi), .int (nI (u + 1))]) := by rw [hg13, va_up_ne _ _ (by omega)]; exact m_60
        have hy : yOb cNl cFull cAdd uns co (came, mis, lost, bel, fig, fi, u, z, F) = (came, mis, lost, bel, fb uns co fig, (fi, u + 1, va_up z (slt fi u) 0, F)) := by
          show (came, mis, lOb cFull (chF co fig) (fi, u, z, F) lost, (if co = 8 then bel + 1 else bel), fb uns co fig, pOb cNl cFull cAdd (chF co fig) (fi, u, z, F)) = _
          rw [hpo, hlo2, if_neg c_53]
        have hk9 : ∀ i, i ≠ 0 → g13 i = g12 i := fun i hi => by rw [hg13, va_up_ne _ _ hi]
        have hS9 : CSh k ad g13 fi (u + 1) (va_up z (slt fi u) 0) F r := hSg12.kept (fun i h1 h2 => hk9 i (by omega))
        have hk8 : ∀ i, (1 ≤ i ∧ i < 6) ∨ 48 ≤ i → g13 i = g i := fun i hi => by rw [hk9 i (by omega)]; exact hkg12 i (by omega)
        exact m_vret hx hb hr hlocks hI (⟨by rw [hy]; exact ⟨m_61, hWi.kept (fun i h1 h2 => hk8 i (by omega)), hS9, ⟨m_63, m_64⟩⟩, fun i hi => hk8 i (by omega)⟩) dX3_obey_79
      · refine lv_aload_n hx hb dX3_obey_56 rfl (lv_at hl 1 rfl) ?_
        refine lv_dup hx hb dX3_obey_57 rfl ?_
        refine m_get (ci := 3) (C := RX3) (T := TX3) (N' := 10) hx hb hts (by decide +kernel) hown hE hI 0 (by omega) m_56 rfl 9 (by decide) (hts (.fieldLink RX3 204 "TapePrinter" "bells" "I") (by decide +kernel)) rfl dX3_obey_58 ?_
        refine lv_iconst (v := nI 1) hx hb dX3_obey_61 (by decide) ?_
        refine lv_iadd hx hb dX3_obey_62 ?_
        refine m_top (show bel + (nI 1) = bel + 1 from rfl) ?_
        refine m_put (ci := 3) (C := RX3) (T := TX3) (N' := 10) (ty := .int) hx hb hts (by decide +kernel) tyX3 tyX3_ok nmX3 hown hE hI 0 (by omega) m_56 rfl 9 (by decide) (hts (.fieldLink RX3 204 "TapePrinter" "bells" "I") (by decide +kernel)) rfl (by decide +kernel) rfl rfl (Nat.le_of_ble_eq_true rfl) dX3_obey_63 (fun H locs hI => ?_)
        obtain ⟨g14, hg14⟩ : ∃ zz, zz = va_up g12 0 (.inr (3, [.ref (ad 1), .ref (ad 6), .ref (ad 48), .int (nI rd), .int (bI fig), .int (bI uns), .int (nI came), .int mis, .int lost, .int (bel + 1)])) := ⟨_, rfl⟩
        replace hI : mI k ad N g14 (mA ad N s.heap.size) s H locs := by rw [hg14]; exact hI
        have m_66 : g14 0 = .inr (3, [.ref (ad 1), .ref (ad 6), .ref (ad 48), .int (nI rd), .int (bI fig), .int (bI uns), .int (nI came), .int mis, .int lost, .int (bel + 1)]) := by rw [hg14, va_up_self]
        have m_67 : g14 1 = .inr (2, [.ref (ad 2), .ref (ad 4), .int (nI play)]) := by rw [hg14, va_up_ne _ _ (by omega)]; exact m_57
        have m_68 : g14 48 = .inr (0, [.ref (ad 49), .int (nI n)]) := by rw [hg14, va_up_ne _ _ (by omega)]; exact m_58
        have m_69 : g14 49 = .inl (k.2.1.1, 120, .inl (fun j => nI (T j))) := by rw [hg14, va_up_ne _ _ (by omega)]; exact m_59
        have m_70 : g14 6 = .inr (1, [.ref (ad 7), .int (nI fi), .int (nI (u + 1))]) := by rw [hg14, va_up_ne _ _ (by omega)]; exact m_60
        refine lv_aload_n hx hb dX3_obey_66 rfl (lv_at hl 1 rfl) ?_
        refine lv_aload_n hx hb dX3_obey_67 rfl (lv_at hl 1 rfl) ?_
        refine lv_iload_n hx hb dX3_obey_68 rfl (lv_at hl 2 rfl) ?_
        refine lv_aload_n hx hb dX3_obey_69 rfl (lv_at hl 1 rfl) ?_
        refine m_get (ci := 3) (C := RX3) (T := TX3) (N' := 10) hx hb hts (by decide +kernel) hown hE hI 0 (by omega) m_66 rfl 4 (by decide) (hts (.fieldLink RX3 61 "TapePrinter" "figures" "Z") (by decide +kernel)) rfl dX3_obey_70 ?_
        refine m_callVi (As := [.int (nI co), .int (bI fig)]) (rest := [.ref (ad 0)]) ⟨hx, hb, hml, hown, hts⟩ hE hI (c_X3_figuresBehind k l ad N g14 _ rd fig uns came mis lost (bel + 1)  co fig (by omega) m_66  (by omega)) (cwV 2 hts gX3_obey_X3_figuresBehind rfl rfl rfl (by decide +kernel) ⟨Nat.le_of_ble_eq_true rfl, Nat.le_of_ble_eq_true rfl⟩) (i := 0) (by omega) m_66 rfl rfl hl.1 rfl (Nat.le_of_ble_eq_true rfl) dX3_obey_73 ⟨Nat.le_of_ble_eq_true rfl, Nat.le_of_ble_eq_true rfl⟩ (m_deti (fun H locs hI => ?_))
        refine m_put (ci := 3) (C := RX3) (T := TX3) (N' := 10) (ty := .boolean) hx hb hts (by decide +kernel) tyX3 tyX3_ok nmX3 hown hE hI 0 (by omega) m_66 rfl 4 (by decide) (hts (.fieldLink RX3 61 "TapePrinter" "figures" "Z") (by decide +kernel)) rfl (by decide +kernel) (bI_nar _) (bI_fit _) (Nat.le_of_ble_eq_true rfl) dX3_obey_76 (fun H locs hI => ?_)
        obtain ⟨g15, hg15⟩ : ∃ zz, zz = va_up g14 0 (.inr (3, [.ref (ad 1), .ref (ad 6), .ref (ad 48), .int (nI rd), .int (bI (fb uns co fig)), .int (bI uns), .int (nI came), .int mis, .int lost, .int (bel + 1)])) := ⟨_, rfl⟩
        replace hI : mI k ad N g15 (mA ad N s.heap.size) s H locs := by rw [hg15]; exact hI
        have m_71 : g15 0 = .inr (3, [.ref (ad 1), .ref (ad 6), .ref (ad 48), .int (nI rd), .int (bI (fb uns co fig)), .int (bI uns), .int (nI came), .int mis, .int lost, .int (bel + 1)]) := by rw [hg15, va_up_self]
        have m_72 : g15 1 = .inr (2, [.ref (ad 2), .ref (ad 4), .int (nI play)]) := by rw [hg15, va_up_ne _ _ (by omega)]; exact m_67
        have m_73 : g15 48 = .inr (0, [.ref (ad 49), .int (nI n)]) := by rw [hg15, va_up_ne _ _ (by omega)]; exact m_68
        have m_74 : g15 49 = .inl (k.2.1.1, 120, .inl (fun j => nI (T j))) := by rw [hg15, va_up_ne _ _ (by omega)]; exact m_69
        have m_75 : g15 6 = .inr (1, [.ref (ad 7), .int (nI fi), .int (nI (u + 1))]) := by rw [hg15, va_up_ne _ _ (by omega)]; exact m_70
        have hy : yOb cNl cFull cAdd uns co (came, mis, lost, bel, fig, fi, u, z, F) = (came, mis, lost, bel + 1, fb uns co fig, (fi, u + 1, va_up z (slt fi u) 0, F)) := by
          show (came, mis, lOb cFull (chF co fig) (fi, u, z, F) lost, (if co = 8 then bel + 1 else bel), fb uns co fig, pOb cNl cFull cAdd (chF co fig) (fi, u, z, F)) = _
          rw [hpo, hlo2, if_pos c_53]
        have hk9 : ∀ i, i ≠ 0 → g15 i = g12 i := fun i hi => by rw [hg15, va_up_ne _ _ hi, hg14, va_up_ne _ _ hi]
        have hS9 : CSh k ad g15 fi (u + 1) (va_up z (slt fi u) 0) F r := hSg12.kept (fun i h1 h2 => hk9 i (by omega))
        have hk8 : ∀ i, (1 ≤ i ∧ i < 6) ∨ 48 ≤ i → g15 i = g i := fun i hi => by rw [hk9 i (by omega)]; exact hkg12 i (by omega)
        exact m_vret hx hb hr hlocks hI (⟨by rw [hy]; exact ⟨m_71, hWi.kept (fun i h1 h2 => hk8 i (by omega)), hS9, ⟨m_73, m_74⟩⟩, fun i hi => hk8 i (by omega)⟩) dX3_obey_79
    · have hpo : pOb cNl cFull cAdd (chF co fig) (fi, u, z, F) = (slt fi 1, u, va_up z fi 0, F) := by unfold pOb cNl; rw [if_pos c_12]; simp only []; rw [if_neg hlo]
      have hlo2 : lOb cFull (chF co fig) (fi, u, z, F) lost = lost := by unfold lOb; rw [if_pos c_12]
      refine lv_aload_n hx hb dX3_obey_15 rfl (lv_at hl 1 rfl) ?_
      refine m_get (ci := 3) (C := RX3) (T := TX3) (N' := 10) hx hb hts (by decide +kernel) hown hE hI 0 (by omega) h0 rfl 1 (by decide) (hts (.fieldLink RX3 19 "TapePrinter" "sheet" "LTapePrinter$Sheet;") (by decide +kernel)) rfl dX3_obey_16 ?_
      refine m_callVv (As := []) (rest := []) ⟨hx, hb, hml, hown, hts⟩ hE hI (c_X1_beginLine_hi k l ad N g _ fi u z F r (by omega) hfi hu hu0 hSh (by omega)) (cwV 0 hts gX3_obey_X1_beginLine rfl rfl rfl (by decide +kernel) ⟨Nat.le_of_ble_eq_true rfl, Nat.le_of_ble_eq_true rfl⟩) (i := 6) (by omega) h6 rfl rfl hl.1 rfl (Nat.le_of_ble_eq_true rfl) dX3_obey_19 ⟨Nat.le_of_ble_eq_true rfl, Nat.le_of_ble_eq_true rfl⟩ (fun g9 H locs hp hI => ?_)
      obtain ⟨hSg16, hkg16⟩ := hp
      have hI : mI k ad N g9 (mA ad N s.heap.size) s H locs := hI
      obtain ⟨g16, hg16⟩ : ∃ zz, zz = g9 := ⟨_, rfl⟩
      rw [← hg16] at hI hSg16 hkg16
      have m_76 : g16 0 = .inr (3, [.ref (ad 1), .ref (ad 6), .ref (ad 48), .int (nI rd), .int (bI fig), .int (bI uns), .int (nI came), .int mis, .int lost, .int bel]) := by rw [hkg16 _ (by omega)]; exact h0
      have m_77 : g16 1 = .inr (2, [.ref (ad 2), .ref (ad 4), .int (nI play)]) := by rw [hkg16 _ (by omega)]; exact h1
      have m_78 : g16 48 = .inr (0, [.ref (ad 49), .int (nI n)]) := by rw [hkg16 _ (by omega)]; exact h48
      have m_79 : g16 49 = .inl (k.2.1.1, 120, .inl (fun j => nI (T j))) := by rw [hkg16 _ (by omega)]; exact h49
      have m_80 : g16 6 = .inr (1, [.ref (ad 7), .int (nI (slt fi 1)), .int (nI u)]) := hSg16.1
      refine lv_goto (tgt := 50) hx hb dX3_obey_22 (by decide) ?_
      refine lv_iload_n hx hb dX3_obey_50 rfl (lv_at hl 2 rfl) ?_
      refine lv_bipush (v := nI 8) hx hb dX3_obey_51 (by decide) ?_
      refine m_cneN (tgt := 66) hx hb (by omega) (by omega) dX3_obey_53 (by decide) (fun c_53 => ?_) (fun c_53 => ?_)
      · refine lv_aload_n hx hb dX3_obey_66 rfl (lv_at hl 1 rfl) ?_
        refine lv_aload_n hx hb dX3_obey_67 rfl (lv_at hl 1 rfl) ?_
        refine lv_iload_n hx hb dX3_obey_68 rfl (lv_at hl 2 rfl) ?_
        refine lv_aload_n hx hb dX3_obey_69 rfl (lv_at hl 1 rfl) ?_
        refine m_get (ci := 3) (C := RX3) (T := TX3) (N' := 10) hx hb hts (by decide +kernel) hown hE hI 0 (by omega) m_76 rfl 4 (by decide) (hts (.fieldLink RX3 61 "TapePrinter" "figures" "Z") (by decide +kernel)) rfl dX3_obey_70 ?_
        refine m_callVi (As := [.int (nI co), .int (bI fig)]) (rest := [.ref (ad 0)]) ⟨hx, hb, hml, hown, hts⟩ hE hI (c_X3_figuresBehind k l ad N g16 _ rd fig uns came mis lost bel  co fig (by omega) m_76  (by omega)) (cwV 2 hts gX3_obey_X3_figuresBehind rfl rfl rfl (by decide +kernel) ⟨Nat.le_of_ble_eq_true rfl, Nat.le_of_ble_eq_true rfl⟩) (i := 0) (by omega) m_76 rfl rfl hl.1 rfl (Nat.le_of_ble_eq_true rfl) dX3_obey_73 ⟨Nat.le_of_ble_eq_true rfl, Nat.le_of_ble_eq_true rfl⟩ (m_deti (fun H locs hI => ?_))
        refine m_put (ci := 3) (C := RX3) (T := TX3) (N' := 10) (ty := .boolean) hx hb hts (by decide +kernel) tyX3 tyX3_ok nmX3 hown hE hI 0 (by omega) m_76 rfl 4 (by decide) (hts (.fieldLink RX3 61 "TapePrinter" "figures" "Z") (by decide +kernel)) rfl (by decide +kernel) (bI_nar _) (bI_fit _) (Nat.le_of_ble_eq_true rfl) dX3_obey_76 (fun H locs hI => ?_)
        obtain ⟨g17, hg17⟩ : ∃ zz, zz = va_up g16 0 (.inr (3, [.ref (ad 1), .ref (ad 6), .ref (ad 48), .int (nI rd), .int (bI (fb uns co fig)), .int (bI uns), .int (nI came), .int mis, .int lost, .int bel])) := ⟨_, rfl⟩
        replace hI : mI k ad N g17 (mA ad N s.heap.size) s H locs := by rw [hg17]; exact hI
        have m_81 : g17 0 = .inr (3, [.ref (ad 1), .ref (ad 6), .ref (ad 48), .int (nI rd), .int (bI (fb uns co fig)), .int (bI uns), .int (nI came), .int mis, .int lost, .int bel]) := by rw [hg17, va_up_self]
        have m_82 : g17 1 = .inr (2, [.ref (ad 2), .ref (ad 4), .int (nI play)]) := by rw [hg17, va_up_ne _ _ (by omega)]; exact m_77
        have m_83 : g17 48 = .inr (0, [.ref (ad 49), .int (nI n)]) := by rw [hg17, va_up_ne _ _ (by omega)]; exact m_78
        have m_84 : g17 49 = .inl (k.2.1.1, 120, .inl (fun j => nI (T j))) := by rw [hg17, va_up_ne _ _ (by omega)]; exact m_79
        have m_85 : g17 6 = .inr (1, [.ref (ad 7), .int (nI (slt fi 1)), .int (nI u)]) := by rw [hg17, va_up_ne _ _ (by omega)]; exact m_80
        have hy : yOb cNl cFull cAdd uns co (came, mis, lost, bel, fig, fi, u, z, F) = (came, mis, lost, bel, fb uns co fig, (slt fi 1, u, va_up z fi 0, F)) := by
          show (came, mis, lOb cFull (chF co fig) (fi, u, z, F) lost, (if co = 8 then bel + 1 else bel), fb uns co fig, pOb cNl cFull cAdd (chF co fig) (fi, u, z, F)) = _
          rw [hpo, hlo2, if_neg c_53]
        have hk9 : ∀ i, i ≠ 0 → g17 i = g16 i := fun i hi => by rw [hg17, va_up_ne _ _ hi]
        have hS9 : CSh k ad g17 (slt fi 1) u (va_up z fi 0) F r := hSg16.kept (fun i h1 h2 => hk9 i (by omega))
        have hk8 : ∀ i, (1 ≤ i ∧ i < 6) ∨ 48 ≤ i → g17 i = g i := fun i hi => by rw [hk9 i (by omega)]; exact hkg16 i (by omega)
        exact m_vret hx hb hr hlocks hI (⟨by rw [hy]; exact ⟨m_81, hWi.kept (fun i h1 h2 => hk8 i (by omega)), hS9, ⟨m_83, m_84⟩⟩, fun i hi => hk8 i (by omega)⟩) dX3_obey_79
      · refine lv_aload_n hx hb dX3_obey_56 rfl (lv_at hl 1 rfl) ?_
        refine lv_dup hx hb dX3_obey_57 rfl ?_
        refine m_get (ci := 3) (C := RX3) (T := TX3) (N' := 10) hx hb hts (by decide +kernel) hown hE hI 0 (by omega) m_76 rfl 9 (by decide) (hts (.fieldLink RX3 204 "TapePrinter" "bells" "I") (by decide +kernel)) rfl dX3_obey_58 ?_
        refine lv_iconst (v := nI 1) hx hb dX3_obey_61 (by decide) ?_
        refine lv_iadd hx hb dX3_obey_62 ?_
        refine m_top (show bel + (nI 1) = bel + 1 from rfl) ?_
        refine m_put (ci := 3) (C := RX3) (T := TX3) (N' := 10) (ty := .int) hx hb hts (by decide +kernel) tyX3 tyX3_ok nmX3 hown hE hI 0 (by omega) m_76 rfl 9 (by decide) (hts (.fieldLink RX3 204 "TapePrinter" "bells" "I") (by decide +kernel)) rfl (by decide +kernel) rfl rfl (Nat.le_of_ble_eq_true rfl) dX3_obey_63 (fun H locs hI => ?_)
        obtain ⟨g18, hg18⟩ : ∃ zz, zz = va_up g16 0 (.inr (3, [.ref (ad 1), .ref (ad 6), .ref (ad 48), .int (nI rd), .int (bI fig), .int (bI uns), .int (nI came), .int mis, .int lost, .int (bel + 1)])) := ⟨_, rfl⟩
        replace hI : mI k ad N g18 (mA ad N s.heap.size) s H locs := by rw [hg18]; exact hI
        have m_86 : g18 0 = .inr (3, [.ref (ad 1), .ref (ad 6), .ref (ad 48), .int (nI rd), .int (bI fig), .int (bI uns), .int (nI came), .int mis, .int lost, .int (bel + 1)]) := by rw [hg18, va_up_self]
        have m_87 : g18 1 = .inr (2, [.ref (ad 2), .ref (ad 4), .int (nI play)]) := by rw [hg18, va_up_ne _ _ (by omega)]; exact m_77
        have m_88 : g18 48 = .inr (0, [.ref (ad 49), .int (nI n)]) := by rw [hg18, va_up_ne _ _ (by omega)]; exact m_78
        have m_89 : g18 49 = .inl (k.2.1.1, 120, .inl (fun j => nI (T j))) := by rw [hg18, va_up_ne _ _ (by omega)]; exact m_79
        have m_90 : g18 6 = .inr (1, [.ref (ad 7), .int (nI (slt fi 1)), .int (nI u)]) := by rw [hg18, va_up_ne _ _ (by omega)]; exact m_80
        refine lv_aload_n hx hb dX3_obey_66 rfl (lv_at hl 1 rfl) ?_
        refine lv_aload_n hx hb dX3_obey_67 rfl (lv_at hl 1 rfl) ?_
        refine lv_iload_n hx hb dX3_obey_68 rfl (lv_at hl 2 rfl) ?_
        refine lv_aload_n hx hb dX3_obey_69 rfl (lv_at hl 1 rfl) ?_
        refine m_get (ci := 3) (C := RX3) (T := TX3) (N' := 10) hx hb hts (by decide +kernel) hown hE hI 0 (by omega) m_86 rfl 4 (by decide) (hts (.fieldLink RX3 61 "TapePrinter" "figures" "Z") (by decide +kernel)) rfl dX3_obey_70 ?_
        refine m_callVi (As := [.int (nI co), .int (bI fig)]) (rest := [.ref (ad 0)]) ⟨hx, hb, hml, hown, hts⟩ hE hI (c_X3_figuresBehind k l ad N g18 _ rd fig uns came mis lost (bel + 1)  co fig (by omega) m_86  (by omega)) (cwV 2 hts gX3_obey_X3_figuresBehind rfl rfl rfl (by decide +kernel) ⟨Nat.le_of_ble_eq_true rfl, Nat.le_of_ble_eq_true rfl⟩) (i := 0) (by omega) m_86 rfl rfl hl.1 rfl (Nat.le_of_ble_eq_true rfl) dX3_obey_73 ⟨Nat.le_of_ble_eq_true rfl, Nat.le_of_ble_eq_true rfl⟩ (m_deti (fun H locs hI => ?_))
        refine m_put (ci := 3) (C := RX3) (T := TX3) (N' := 10) (ty := .boolean) hx hb hts (by decide +kernel) tyX3 tyX3_ok nmX3 hown hE hI 0 (by omega) m_86 rfl 4 (by decide) (hts (.fieldLink RX3 61 "TapePrinter" "figures" "Z") (by decide +kernel)) rfl (by decide +kernel) (bI_nar _) (bI_fit _) (Nat.le_of_ble_eq_true rfl) dX3_obey_76 (fun H locs hI => ?_)
        obtain ⟨g19, hg19⟩ : ∃ zz, zz = va_up g18 0 (.inr (3, [.ref (ad 1), .ref (ad 6), .ref (ad 48), .int (nI rd), .int (bI (fb uns co fig)), .int (bI uns), .int (nI came), .int mis, .int lost, .int (bel + 1)])) := ⟨_, rfl⟩
        replace hI : mI k ad N g19 (mA ad N s.heap.size) s H locs := by rw [hg19]; exact hI
        have m_91 : g19 0 = .inr (3, [.ref (ad 1), .ref (ad 6), .ref (ad 48), .int (nI rd), .int (bI (fb uns co fig)), .int (bI uns), .int (nI came), .int mis, .int lost, .int (bel + 1)]) := by rw [hg19, va_up_self]
        have m_92 : g19 1 = .inr (2, [.ref (ad 2), .ref (ad 4), .int (nI play)]) := by rw [hg19, va_up_ne _ _ (by omega)]; exact m_87
        have m_93 : g19 48 = .inr (0, [.ref (ad 49), .int (nI n)]) := by rw [hg19, va_up_ne _ _ (by omega)]; exact m_88
        have m_94 : g19 49 = .inl (k.2.1.1, 120, .inl (fun j => nI (T j))) := by rw [hg19, va_up_ne _ _ (by omega)]; exact m_89
        have m_95 : g19 6 = .inr (1, [.ref (ad 7), .int (nI (slt fi 1)), .int (nI u)]) := by rw [hg19, va_up_ne _ _ (by omega)]; exact m_90
        have hy : yOb cNl cFull cAdd uns co (came, mis, lost, bel, fig, fi, u, z, F) = (came, mis, lost, bel + 1, fb uns co fig, (slt fi 1, u, va_up z fi 0, F)) := by
          show (came, mis, lOb cFull (chF co fig) (fi, u, z, F) lost, (if co = 8 then bel + 1 else bel), fb uns co fig, pOb cNl cFull cAdd (chF co fig) (fi, u, z, F)) = _
          rw [hpo, hlo2, if_pos c_53]
        have hk9 : ∀ i, i ≠ 0 → g19 i = g16 i := fun i hi => by rw [hg19, va_up_ne _ _ hi, hg18, va_up_ne _ _ hi]
        have hS9 : CSh k ad g19 (slt fi 1) u (va_up z fi 0) F r := hSg16.kept (fun i h1 h2 => hk9 i (by omega))
        have hk8 : ∀ i, (1 ≤ i ∧ i < 6) ∨ 48 ≤ i → g19 i = g i := fun i hi => by rw [hk9 i (by omega)]; exact hkg16 i (by omega)
        exact m_vret hx hb hr hlocks hI (⟨by rw [hy]; exact ⟨m_91, hWi.kept (fun i h1 h2 => hk8 i (by omega)), hS9, ⟨m_93, m_94⟩⟩, fun i hi => hk8 i (by omega)⟩) dX3_obey_79
set_option maxHeartbeats 8000000 in
set_option maxRecDepth 100000 in
theorem c_X3_takeIn (k : mC) (l : Launch) (ad : Nat → Nat) (N : Nat) (g : Nat → va_E) (sz : Nat) (uns : Bool) (play rd n : Nat) (lat : Nat → Int32) (gar T : Nat → Nat) (came : Nat) (mis lost bel : Int32) (fig : Bool) (fi u : Nat) (z : Nat → Nat) (F : Nat → Nat → Nat) (r : Nat → Option Nat) (co : Nat) (hN : 50 ≤ N) (hW : CW play rd n lat gar T) (hwf : cWf (fi, u, z, F)) (hcame : came < 2147483640) (hC : CR k ad g uns play rd n lat gar T (came, mis, lost, bel, fig, fi, u, z, F) r) (hc : co < 32) : mCi k l yX3_takeIn wsX3_takeIn { frames := 4, cells := 0, slots := 0, locals := 85 } ad N g sz [.ref (ad 0), .int (nI co)] (fun r1 g1 => r1 = nI (rdY play lat gar came co) ∧ CR k ad g1 uns play rd n lat gar T (yIn cNl cFull cAdd uns play lat gar co (came, mis, lost, bel, fig, fi, u, z, F)) r ∧ ∀ i, 50 ≤ i → g1 i = g i) := by
  refine mOf (Qc := fun z9 => va_Qi (fun r1 g1 => r1 = nI (rdY play lat gar came co) ∧ CR k ad g1 uns play rd n lat gar T (yIn cNl cFull cAdd uns play lat gar co (came, mis, lost, bel, fig, fi, u, z, F)) r ∧ ∀ i, 50 ≤ i → g1 i = g i) (mB k ad N) (mA ad N z9)) (cc := cX3_takeIn) (maxL := 3) (ret := (some .int)) (by decide) rfl (Nat.le_of_ble_eq_true rfl) ?_
  intro p e s m below meth c hx hb hr hts hown hlocks hml hin hE hI ls hl
  have hl : lv_has ls 3 [(0, .ref (ad 0)), (1, .int (nI co))] := hl
  have h0 : g 0 = .inr (3, [.ref (ad 1), .ref (ad 6), .ref (ad 48), .int (nI rd), .int (bI fig), .int (bI uns), .int (nI came), .int mis, .int lost, .int bel]) := hC.1
  have hWi : CWi k ad g play lat gar := hC.2.1
  have hSh : CSh k ad g fi u z F r := hC.2.2.1
  have h48 : g 48 = .inr (0, [.ref (ad 49), .int (nI n)]) := hC.2.2.2.1
  have h49 : g 49 = .inl (k.2.1.1, 120, .inl (fun j => nI (T j))) := hC.2.2.2.2
  have hr48 : CRow k ad g 48 120 n (fun j => nI (T j)) := ⟨h48, h49⟩
  have h1 := hWi.1
  have h6 : g 6 = .inr (1, [.ref (ad 7), .int (nI fi), .int (nI u)]) := hSh.1
  obtain ⟨hplay, hrd, hn, hgar, hT, hlat⟩ := id hW
  have hfi : fi < 20 := hwf.1
  have hu0 : 0 < u := hwf.2.1
  have hu : u ≤ 20 := hwf.2.2
  refine lv_aload_n hx hb dX3_takeIn_0 rfl (lv_at hl 0 rfl) ?_
  refine m_get (ci := 3) (C := RX3) (T := TX3) (N' := 10) hx hb hts (by decide +kernel) hown hE hI 0 (by omega) h0 rfl 0 (by decide) (hts (.fieldLink RX3 10 "TapePrinter" "wire" "LTapePrinter$Wire;") (by decide +kernel)) rfl dX3_takeIn_1 ?_
  refine lv_iload_n hx hb dX3_takeIn_4 rfl (lv_at hl 1 rfl) ?_
  refine lv_aload_n hx hb dX3_takeIn_5 rfl (lv_at hl 0 rfl) ?_
  refine m_get (ci := 3) (C := RX3) (T := TX3) (N' := 10) hx hb hts (by decide +kernel) hown hE hI 0 (by omega) h0 rfl 6 (by decide) (hts (.fieldLink RX3 158 "TapePrinter" "came" "I") (by decide +kernel)) rfl dX3_takeIn_6 ?_
  refine m_callVi (As := [.int (nI co), .int (nI came)]) (rest := []) ⟨hx, hb, hml, hown, hts⟩ hE hI (c_X2_readAs k l ad N g _ play lat gar co came (by omega) hWi (by omega) (by omega) hgar) (cwV 2 hts gX3_takeIn_X2_readAs rfl rfl rfl (by decide +kernel) ⟨Nat.le_of_ble_eq_true rfl, Nat.le_of_ble_eq_true rfl⟩) (i := 1) (by omega) h1 rfl rfl hl.1 rfl (Nat.le_of_ble_eq_true rfl) dX3_takeIn_9 ⟨Nat.le_of_ble_eq_true rfl, Nat.le_of_ble_eq_true rfl⟩ (m_deti (fun H locs hI => ?_))
  have hrl := rdF_lt (play := play) (lt := lat (came % 16)) hc (hgar (came % 16) (Nat.mod_lt _ (by omega)))
  refine lv_istore_n (lv' := [(2, .int (nI (rdF play (lat (came % 16)) (gar (came % 16)) co))), (0, .ref (ad 0)), (1, .int (nI co))]) hx hb dX3_takeIn_12 rfl hl (by decide) rfl (fun ls hl => ?_)
  refine lv_aload_n hx hb dX3_takeIn_13 rfl (lv_at hl 1 rfl) ?_
  refine lv_dup hx hb dX3_takeIn_14 rfl ?_
  refine m_get (ci := 3) (C := RX3) (T := TX3) (N' := 10) hx hb hts (by decide +kernel) hown hE hI 0 (by omega) h0 rfl 6 (by decide) (hts (.fieldLink RX3 158 "TapePrinter" "came" "I") (by decide +kernel)) rfl dX3_takeIn_15 ?_
  refine lv_iconst (v := nI 1) hx hb dX3_takeIn_18 (by decide) ?_
  refine m_iaddN hx hb dX3_takeIn_19 ?_
  refine m_put (ci := 3) (C := RX3) (T := TX3) (N' := 10) (ty := .int) hx hb hts (by decide +kernel) tyX3 tyX3_ok nmX3 hown hE hI 0 (by omega) h0 rfl 6 (by decide) (hts (.fieldLink RX3 158 "TapePrinter" "came" "I") (by decide +kernel)) rfl (by decide +kernel) rfl rfl (Nat.le_of_ble_eq_true rfl) dX3_takeIn_20 (fun H locs hI => ?_)
  obtain ⟨g1, hg1⟩ : ∃ zz, zz = va_up g 0 (.inr (3, [.ref (ad 1), .ref (ad 6), .ref (ad 48), .int (nI rd), .int (bI fig), .int (bI uns), .int (nI (came + 1)), .int mis, .int lost, .int bel])) := ⟨_, rfl⟩
  replace hI : mI k ad N g1 (mA ad N s.heap.size) s H locs := by rw [hg1]; exact hI
  have m_1 : g1 0 = .inr (3, [.ref (ad 1), .ref (ad 6), .ref (ad 48), .int (nI rd), .int (bI fig), .int (bI uns), .int (nI (came + 1)), .int mis, .int lost, .int bel]) := by rw [hg1, va_up_self]
  have m_2 : g1 1 = .inr (2, [.ref (ad 2), .ref (ad 4), .int (nI play)]) := by rw [hg1, va_up_ne _ _ (by omega)]; exact h1
  have m_3 : g1 48 = .inr (0, [.ref (ad 49), .int (nI n)]) := by rw [hg1, va_up_ne _ _ (by omega)]; exact h48
  have m_4 : g1 49 = .inl (k.2.1.1, 120, .inl (fun j => nI (T j))) := by rw [hg1, va_up_ne _ _ (by omega)]; exact h49
  have m_5 : g1 6 = .inr (1, [.ref (ad 7), .int (nI fi), .int (nI u)]) := by rw [hg1, va_up_ne _ _ (by omega)]; exact h6
  refine lv_iload_n hx hb dX3_takeIn_23 rfl (lv_at hl 0 rfl) ?_
  refine lv_iload_n hx hb dX3_takeIn_24 rfl (lv_at hl 2 rfl) ?_
  refine m_ceqN (tgt := 38) hx hb (by omega) (by omega) dX3_takeIn_25 (by decide) (fun c_25 => ?_) (fun c_25 => ?_)
  · refine lv_aload_n hx hb dX3_takeIn_38 rfl (lv_at hl 1 rfl) ?_
    refine lv_iload_n hx hb dX3_takeIn_39 rfl (lv_at hl 0 rfl) ?_
    have hk9 : ∀ i, i ≠ 0 → g1 i = g i := fun i hi => by rw [hg1, va_up_ne _ _ hi]
    have hC9 : CR k ad g1 uns play rd n lat gar T (came + 1, mis, lost, bel, fig, fi, u, z, F) r := ⟨m_1, hWi.kept (fun i h1 h2 => hk9 i (by omega)), hSh.kept (fun i h1 h2 => hk9 i (by omega)), ⟨m_3, m_4⟩⟩
    refine m_callVv (As := [.int (nI (rdF play (lat (came % 16)) (gar (came % 16)) co))]) (rest := []) ⟨hx, hb, hml, hown, hts⟩ hE hI (c_X3_obey k l ad N g1 _ uns play rd n lat gar T (came + 1) (mis) lost bel fig fi u z F r (rdF play (lat (came % 16)) (gar (came % 16)) co) (by omega) hW hwf (by omega) hC9 (rdF_lt hc (hgar _ (Nat.mod_lt _ (by omega))))) (cwV 1 hts gX3_takeIn_X3_obey rfl rfl rfl (by decide +kernel) ⟨Nat.le_of_ble_eq_true rfl, Nat.le_of_ble_eq_true rfl⟩) (i := 0) (by omega) m_1 rfl rfl hl.1 rfl (Nat.le_of_ble_eq_true rfl) dX3_takeIn_40 ⟨Nat.le_of_ble_eq_true rfl, Nat.le_of_ble_eq_true rfl⟩ (fun g9 H locs hp hI => ?_)
    obtain ⟨hC8, hk8⟩ := hp
    refine lv_iload_n hx hb dX3_takeIn_43 rfl (lv_at hl 0 rfl) ?_
    have hy : yIn cNl cFull cAdd uns play lat gar co (came, mis, lost, bel, fig, fi, u, z, F) = yOb cNl cFull cAdd uns (rdF play (lat (came % 16)) (gar (came % 16)) co) (came + 1, mis, lost, bel, fig, fi, u, z, F) := by
      show yOb cNl cFull cAdd uns (rdF play (lat (came % 16)) (gar (came % 16)) co) (came + 1, (if rdF play (lat (came % 16)) (gar (came % 16)) co = co then mis else mis + 1), lost, bel, fig, fi, u, z, F) = _
      rw [if_pos c_25]
    exact m_iret hx hb hr hlocks hI (⟨rfl, by rw [hy]; exact hC8, fun i hi => by rw [hk8 i hi, hk9 i (by omega)]⟩) dX3_takeIn_44
  · refine lv_aload_n hx hb dX3_takeIn_28 rfl (lv_at hl 1 rfl) ?_
    refine lv_dup hx hb dX3_takeIn_29 rfl ?_
    refine m_get (ci := 3) (C := RX3) (T := TX3) (N' := 10) hx hb hts (by decide +kernel) hown hE hI 0 (by omega) m_1 rfl 7 (by decide) (hts (.fieldLink RX3 198 "TapePrinter" "misread" "I") (by decide +kernel)) rfl dX3_takeIn_30 ?_
    refine lv_iconst (v := nI 1) hx hb dX3_takeIn_33 (by decide) ?_
    refine lv_iadd hx hb dX3_takeIn_34 ?_
    refine m_top (show mis + (nI 1) = mis + 1 from rfl) ?_
    refine m_put (ci := 3) (C := RX3) (T := TX3) (N' := 10) (ty := .int) hx hb hts (by decide +kernel) tyX3 tyX3_ok nmX3 hown hE hI 0 (by omega) m_1 rfl 7 (by decide) (hts (.fieldLink RX3 198 "TapePrinter" "misread" "I") (by decide +kernel)) rfl (by decide +kernel) rfl rfl (Nat.le_of_ble_eq_true rfl) dX3_takeIn_35 (fun H locs hI => ?_)
    obtain ⟨g2, hg2⟩ : ∃ zz, zz = va_up g1 0 (.inr (3, [.ref (ad 1), .ref (ad 6), .ref (ad 48), .int (nI rd), .int (bI fig), .int (bI uns), .int (nI (came + 1)), .int (mis + 1), .int lost, .int bel])) := ⟨_, rfl⟩
    replace hI : mI k ad N g2 (mA ad N s.heap.size) s H locs := by rw [hg2]; exact hI
    have m_6 : g2 0 = .inr (3, [.ref (ad 1), .ref (ad 6), .ref (ad 48), .int (nI rd), .int (bI fig), .int (bI uns), .int (nI (came + 1)), .int (mis + 1), .int lost, .int bel]) := by rw [hg2, va_up_self]
    have m_7 : g2 1 = .inr (2, [.ref (ad 2), .ref (ad 4), .int (nI play)]) := by rw [hg2, va_up_ne _ _ (by omega)]; exact m_2
    have m_8 : g2 48 = .inr (0, [.ref (ad 49), .int (nI n)]) := by rw [hg2, va_up_ne _ _ (by omega)]; exact m_3
    have m_9 : g2 49 = .inl (k.2.1.1, 120, .inl (fun j => nI (T j))) := by rw [hg2, va_up_ne _ _ (by omega)]; exact m_4
    have m_10 : g2 6 = .inr (1, [.ref (ad 7), .int (nI fi), .int (nI u)]) := by rw [hg2, va_up_ne _ _ (by omega)]; exact m_5
    refine lv_aload_n hx hb dX3_takeIn_38 rfl (lv_at hl 1 rfl) ?_
    refine lv_iload_n hx hb dX3_takeIn_39 rfl (lv_at hl 0 rfl) ?_
    have hk9 : ∀ i, i ≠ 0 → g2 i = g i := fun i hi => by rw [hg2, va_up_ne _ _ hi, hg1, va_up_ne _ _ hi]
    have hC9 : CR k ad g2 uns play rd n lat gar T (came + 1, mis + 1, lost, bel, fig, fi, u, z, F) r := ⟨m_6, hWi.kept (fun i h1 h2 => hk9 i (by omega)), hSh.kept (fun i h1 h2 => hk9 i (by omega)), ⟨m_8, m_9⟩⟩
    refine m_callVv (As := [.int (nI (rdF play (lat (came % 16)) (gar (came % 16)) co))]) (rest := []) ⟨hx, hb, hml, hown, hts⟩ hE hI (c_X3_obey k l ad N g2 _ uns play rd n lat gar T (came + 1) (mis + 1) lost bel fig fi u z F r (rdF play (lat (came % 16)) (gar (came % 16)) co) (by omega) hW hwf (by omega) hC9 (rdF_lt hc (hgar _ (Nat.mod_lt _ (by omega))))) (cwV 1 hts gX3_takeIn_X3_obey rfl rfl rfl (by decide +kernel) ⟨Nat.le_of_ble_eq_true rfl, Nat.le_of_ble_eq_true rfl⟩) (i := 0) (by omega) m_6 rfl rfl hl.1 rfl (Nat.le_of_ble_eq_true rfl) dX3_takeIn_40 ⟨Nat.le_of_ble_eq_true rfl, Nat.le_of_ble_eq_true rfl⟩ (fun g9 H locs hp hI => ?_)
    obtain ⟨hC8, hk8⟩ := hp
    refine lv_iload_n hx hb dX3_takeIn_43 rfl (lv_at hl 0 rfl) ?_
    have hy : yIn cNl cFull cAdd uns play lat gar co (came, mis, lost, bel, fig, fi, u, z, F) = yOb cNl cFull cAdd uns (rdF play (lat (came % 16)) (gar (came % 16)) co) (came + 1, mis + 1, lost, bel, fig, fi, u, z, F) := by
      show yOb cNl cFull cAdd uns (rdF play (lat (came % 16)) (gar (came % 16)) co) (came + 1, (if rdF play (lat (came % 16)) (gar (came % 16)) co = co then mis else mis + 1), lost, bel, fig, fi, u, z, F) = _
      rw [if_neg c_25]
    exact m_iret hx hb hr hlocks hI (⟨rfl, by rw [hy]; exact hC8, fun i hi => by rw [hk8 i hi, hk9 i (by omega)]⟩) dX3_takeIn_44
set_option maxHeartbeats 8000000 in
set_option maxRecDepth 100000 in
theorem c_X3_character (k : mC) (l : Launch) (hst : l.stackTraces = false) (ad : Nat → Nat) (N : Nat) (g : Nat → va_E) (sz : Nat) (uns : Bool) (play rd n : Nat) (lat : Nat → Int32) (gar T : Nat → Nat) (came : Nat) (mis lost bel : Int32) (fig : Bool) (fi u : Nat) (z : Nat → Nat) (F : Nat → Nat → Nat) (r : Nat → Option Nat) (p0 : Int32) (b0 : Bool) (hN : 50 ≤ N) (hW : CW play rd n lat gar T) (hwf : cWf (fi, u, z, F)) (hcame : came < 2000000000) (hC : CR k ad g uns play rd n lat gar T (came, mis, lost, bel, fig, fi, u, z, F) r)  : mXi k l yX3_character wsX3_character { frames := 6, cells := 1, slots := 6, locals := 82 } ad N g sz [.ref (ad 0), .int p0, .int (bI b0)] (fun r1 g1 => inN p0 32 = true ∧ r1 = nI (chF (tn p0) b0) ∧ g1 = g) (fun E => E = "java/lang/IndexOutOfBoundsException" ∧ inN p0 32 = false) := by
  refine mOfX (cc := cX3_character) (maxL := 3) (ret := (some .int)) (by decide) rfl (Nat.le_of_ble_eq_true rfl) ?_
  intro p e s m below meth c hx hb hr hts hown hlocks hml htab hE hI ls hl
  have hl : lv_has ls 3 [(0, .ref (ad 0)), (1, .int p0), (2, .int (bI b0))] := hl
  have h0 : g 0 = .inr (3, [.ref (ad 1), .ref (ad 6), .ref (ad 48), .int (nI rd), .int (bI fig), .int (bI uns), .int (nI came), .int mis, .int lost, .int bel]) := hC.1
  have hWi : CWi k ad g play lat gar := hC.2.1
  have hSh : CSh k ad g fi u z F r := hC.2.2.1
  have h48 : g 48 = .inr (0, [.ref (ad 49), .int (nI n)]) := hC.2.2.2.1
  have h49 : g 49 = .inl (k.2.1.1, 120, .inl (fun j => nI (T j))) := hC.2.2.2.2
  have hr48 : CRow k ad g 48 120 n (fun j => nI (T j)) := ⟨h48, h49⟩
  have h1 := hWi.1
  have h6 : g 6 = .inr (1, [.ref (ad 7), .int (nI fi), .int (nI u)]) := hSh.1
  obtain ⟨hplay, hrd, hn, hgar, hT, hlat⟩ := id hW
  have hfi : fi < 20 := hwf.1
  have hu0 : 0 < u := hwf.2.1
  have hu : u ≤ 20 := hwf.2.2
  refine lv_iload_n hx hb dX3_character_0 rfl (lv_at hl 1 rfl) ?_
  refine m_callSi (As := [.int p0]) (rest := []) ⟨hx, hb, hml, hown, hts⟩ hE hI (c_X3_isCode k l ad N g _ p0 ) (va_cwS 1 hts gX3_character_X3_isCode rfl rfl rfl (by decide +kernel) ⟨Nat.le_of_ble_eq_true rfl, Nat.le_of_ble_eq_true rfl⟩) rfl hl.1 rfl (Nat.le_of_ble_eq_true rfl) dX3_character_1 ⟨Nat.le_of_ble_eq_true rfl, Nat.le_of_ble_eq_true rfl⟩ (m_deti (fun H locs hI => ?_))
  refine m_zneB (tgt := 17) hx hb dX3_character_4 (by decide) (fun c_4 => ?_) (fun c_4 => ?_)
  · obtain ⟨j, hj, rfl⟩ := inN_ex c_4 (by omega)
    have htnj := tn_nI (j := j) (by omega)
    have hl : lv_has ls 3 [(0, .ref (ad 0)), (1, .int (nI j)), (2, .int (bI b0))] := hl
    refine lv_iload_n hx hb dX3_character_17 rfl (lv_at hl 1 rfl) ?_
    refine lv_iload_n hx hb dX3_character_18 rfl (lv_at hl 2 rfl) ?_
    refine m_callSi (As := [.int (nI j), .int (bI b0)]) (rest := []) ⟨hx, hb, hml, hown, hts⟩ hE hI (c_X3_characterOf k l ad N g _ j b0 (by omega)) (va_cwS 2 hts gX3_character_X3_characterOf rfl rfl rfl (by decide +kernel) ⟨Nat.le_of_ble_eq_true rfl, Nat.le_of_ble_eq_true rfl⟩) rfl hl.1 rfl (Nat.le_of_ble_eq_true rfl) dX3_character_19 ⟨Nat.le_of_ble_eq_true rfl, Nat.le_of_ble_eq_true rfl⟩ (m_deti (fun H locs hI => ?_))
    refine vx_ret ?_
    refine W.widen (k := 1) (n := 6) (by omega) (by omega) ?_
    exact m_iret hx hb hr hlocks hI (⟨c_4, by rw [htnj], rfl⟩) dX3_character_22
  · exact m_throwS hx hb hst hown (cls := "java/lang/IndexOutOfBoundsException") (ik := 36) (is := 50) (ic := 40) x_fit36 (hts (.classLink RX3 36 "java/lang/IndexOutOfBoundsException") (by decide +kernel)) (hts (.initialized "java/lang/IndexOutOfBoundsException") (by decide +kernel)) (x_hat36 hE.1.2.2.2.2.2 (fun w h => hts w (List.mem_cons_of_mem _ (List.mem_append_right _ h)))) x_good36 (text := "no such code") (by decide) hE hI (by rw [hml]; exact hl.1) dX3_character_7 dX3_character_10 dX3_character_11 dX3_character_13 dX3_character_16 htab hlocks (by decide) (Nat.le_of_ble_eq_true rfl) (⟨rfl, c_4⟩)
/-- the units that are set -/
def pc5 (x : Nat) : Nat := x % 2 + x / 2 % 2 + x / 4 % 2 + x / 8 % 2 + x / 16 % 2
def bcE (x : Int32) : Int32 :=
  let u := fun (a b : Int32) => (a.toUInt32 >>> (b.toUInt32 &&& Int32.toUInt32 31)).toInt32
  let x1 := x - (u x (nI 1) &&& 1431655765)
  let x2 := (x1 &&& 858993459) + (u x1 (nI 2) &&& 858993459)
  let x3 := (x2 + u x2 (nI 4)) &&& 252645135
  let x4 := x3 + u x3 (nI 8)
  let x5 := x4 + u x4 (nI 16)
  x5 &&& nI 63
theorem bcE_5 : ∀ c, c < 32 → bcE (nI c) = nI (pc5 c) := by decide +kernel
theorem xor32b : ∀ a, a < 32 → ∀ b, b < 32 → nI a ^^^ nI b = nI (a ^^^ b) ∧ a ^^^ b < 32 := by decide +kernel
/-- how many of the first m units change what is printed -/
def dbt (c : Nat) (b : Bool) : Nat → Nat
  | 0 => 0
  | m + 1 => if chF (c ^^^ 2 ^ m) b = chF c b then dbt c b m else dbt c b m + 1
theorem dbt_le (c : Nat) (b : Bool) (m : Nat) : dbt c b m ≤ m := by
  induction m with
  | zero => exact Nat.le_refl _
  | succ m ih => simp only [dbt]; split <;> omega
theorem bit32 : ∀ c, c < 32 → ∀ i, i < 5 → nI c ^^^ (nI 1 <<< (nI i &&& 31)) = nI (c ^^^ 2 ^ i) ∧ c ^^^ 2 ^ i < 32 := by decide +kernel
