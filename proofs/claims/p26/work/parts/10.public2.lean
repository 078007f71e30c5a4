theorem CWi.change {k : mC} {ad : Nat → Nat} {g : Nat → va_E} {play : Nat} {lat : Nat → Int32} {gar : Nat → Nat} (h : CWi k ad g play lat gar) (j : Nat) (v : Int32) (q : Nat) : CWi k ad (va_up (va_up g 3 (.inl (k.2.1.1, 16, .inl (upd lat j v)))) 5 (.inl (k.2.1.1, 16, .inl (upd (fun j => nI (gar j)) j (nI q))))) play (upd lat j v) (va_up gar j q) := by
  refine ⟨(va_up_ne _ _ (by omega)).trans ((va_up_ne _ _ (by omega)).trans h.1), ⟨(va_up_ne _ _ (by omega)).trans ((va_up_ne _ _ (by omega)).trans h.2.1.1), (va_up_ne _ _ (by omega)).trans (va_up_self _ _ _)⟩, ⟨(va_up_ne _ _ (by omega)).trans ((va_up_ne _ _ (by omega)).trans h.2.2.1), ?_⟩⟩
  rw [← upd_nI]
  exact va_up_self _ _ _
theorem CWi.play {k : mC} {ad : Nat → Nat} {g : Nat → va_E} {play : Nat} {lat : Nat → Int32} {gar : Nat → Nat} (h : CWi k ad g play lat gar) (v : Nat) : CWi k ad (va_up g 1 (.inr (2, [.ref (ad 2), .ref (ad 4), .int (nI v)]))) v lat gar :=
  ⟨va_up_self _ _ _, h.2.1.kept (va_up_ne _ _ (by omega)) (va_up_ne _ _ (by omega)), h.2.2.kept (va_up_ne _ _ (by omega)) (va_up_ne _ _ (by omega))⟩
/-- a lateness -/
def in9 (x : Int32) : Bool := decide (-9 ≤ x) && decide (x ≤ 9)
theorem in9_lo {x : Int32} (h : x < -9) : in9 x = false := by
  simp only [in9, Bool.and_eq_false_iff, decide_eq_false_iff_not]
  left; intro q; rw [Int32.le_iff_toInt_le] at q; rw [Int32.lt_iff_toInt_lt] at h; omega
theorem in9_hi {x : Int32} (h : ¬ x ≤ nI 9) : in9 x = false := by
  simp only [in9, Bool.and_eq_false_iff, decide_eq_false_iff_not]
  right; exact h
theorem in9_yes {x : Int32} (h : ¬ x < -9) (h2 : x ≤ nI 9) : in9 x = true := by
  simp only [in9, Bool.and_eq_true, decide_eq_true_eq]
  refine ⟨?_, h2⟩
  rw [Int32.le_iff_toInt_le]; rw [Int32.lt_iff_toInt_lt] at h; omega
/-- how many codes may run -/
def in120 (x : Int32) : Bool := decide (1 ≤ x) && decide (x ≤ 120)
theorem in120_lo {x : Int32} (h : x < nI 1) : in120 x = false := by
  simp only [in120, Bool.and_eq_false_iff, decide_eq_false_iff_not]
  left; intro q; rw [Int32.le_iff_toInt_le] at q; rw [Int32.lt_iff_toInt_lt] at h
  have e1 : (nI 1).toInt = (1 : Int32).toInt := by decide
  omega
theorem in120_hi {x : Int32} (h : ¬ x ≤ nI 120) : in120 x = false := by
  simp only [in120, Bool.and_eq_false_iff, decide_eq_false_iff_not]
  right; exact h
theorem in120_yes {x : Int32} (h : ¬ x < nI 1) (h2 : x ≤ nI 120) : in120 x = true := by
  simp only [in120, Bool.and_eq_true, decide_eq_true_eq]
  refine ⟨?_, h2⟩
  rw [Int32.le_iff_toInt_le]; rw [Int32.lt_iff_toInt_lt] at h
  have e1 : (nI 1).toInt = (1 : Int32).toInt := by decide
  omega
theorem in120_ex {x : Int32} (h : in120 x = true) : ∃ j : Nat, 1 ≤ j ∧ j ≤ 120 ∧ x = nI j := by
  simp only [in120, Bool.and_eq_true, decide_eq_true_eq] at h
  have h1 := h.1; have h2 := h.2
  rw [Int32.le_iff_toInt_le] at h1 h2
  have e1 : (1 : Int32).toInt = 1 := by decide
  have e2 : (120 : Int32).toInt = 120 := by decide
  obtain ⟨j, hj, rfl⟩ := nI_of (x := x) (fun q => by rw [Int32.lt_iff_toInt_lt] at q; have e0 : (0 : Int32).toInt = 0 := by decide
                                                     omega)
  rw [nI_toInt hj] at h1 h2
  exact ⟨j, by omega, by omega, rfl⟩
theorem min_nI {a b : Nat} (ha : a < 2147483648) (hb : b < 2147483648) : (if nI b < nI a then nI b else nI a) = nI (min a b) := by
  by_cases h : b < a
  · rw [if_pos ((nI_ltI hb ha).mpr h), Nat.min_eq_right (by omega)]
  · rw [if_neg (fun q => h ((nI_ltI hb ha).mp q)), Nat.min_eq_left (by omega)]
set_option maxHeartbeats 8000000 in
set_option maxRecDepth 100000 in
theorem c_X3_setLine (k : mC) (l : Launch) (hst : l.stackTraces = false) (ad : Nat → Nat) (N : Nat) (g : Nat → va_E) (sz : Nat) (uns : Bool) (play rd n : Nat) (lat : Nat → Int32) (gar T : Nat → Nat) (came : Nat) (mis lost bel : Int32) (fig : Bool) (fi u : Nat) (z : Nat → Nat) (F : Nat → Nat → Nat) (r : Nat → Option Nat) (p0 p1 p2 : Int32) (hN : 50 ≤ N) (hW : CW play rd n lat gar T) (hwf : cWf (fi, u, z, F)) (hcame : came < 2000000000) (hC : CR k ad g uns play rd n lat gar T (came, mis, lost, bel, fig, fi, u, z, F) r)  : mXi k l yX3_setLine wsX3_setLine { frames := 6, cells := 1, slots := 6, locals := 82 } ad N g sz [.ref (ad 0), .int p0, .int p1, .int p2] (fun r1 g1 => inN p0 16 = true ∧ (in9 p1 && inN p2 32) = true ∧ r1 = lat (tn p0) ∧ CR k ad g1 uns play rd n (upd lat (tn p0) p1) (va_up gar (tn p0) (tn p2)) T (came, mis, lost, bel, fig, fi, u, z, F) r ∧ ∀ i, 50 ≤ i → g1 i = g i) (fun E => (E = "java/lang/IndexOutOfBoundsException" ∧ inN p0 16 = false) ∨ (E = "java/lang/IllegalArgumentException" ∧ inN p0 16 = true ∧ (in9 p1 && inN p2 32) = false)) := by
  refine mOfX (cc := cX3_setLine) (maxL := 5) (ret := (some .int)) (by decide) rfl (Nat.le_of_ble_eq_true rfl) ?_
  intro p e s m below meth c hx hb hr hts hown hlocks hml htab hE hI ls hl
  have hl : lv_has ls 5 [(0, .ref (ad 0)), (1, .int p0), (2, .int p1), (3, .int p2)] := hl
  have h0 : g 0 = .inr (3, [.ref (ad 1), .ref (ad 6), .ref (ad 48), .int (nI rd), .int (bI fig), .int (bI uns), .int (nI came), .int mis, .int lost, .int bel]) := hC.1
  have hWi : CWi k ad g play lat gar := hC.2.1
  have hSh : CSh k ad g fi u z F r := hC.2.2.1
  have h48 : g 48 = .inr (0, [.ref (ad 49), .int (nI n)]) := hC.2.2.2.1
  have h49 : g 49 = .inl (k.2.1.1, 120, .inl (fun j => nI (T j))) := hC.2.2.2.2
  have hr48 : CRow k ad g 48 120 n (fun j => nI (T j)) := ⟨h48, h49⟩
  have h1 := hWi.1
  have h6 : g 6 = .inr (1, [.ref (ad 7), .int (nI fi), .int (nI u)]) := hSh.1
  obtain ⟨hplay, hrd, hn, hgar, hT, hlat⟩ := id hW
  have hfi : fi < 20 := hwf.1
  have hu0 : 0 < u := hwf.2.1
  have hu : u ≤ 20 := hwf.2.2
  refine lv_iload_n hx hb dX3_setLine_0 rfl (lv_at hl 1 rfl) ?_
  refine lv_if_lt (tgt := 10) hx hb dX3_setLine_1 (by decide) (fun c_1 => ?_) (fun c_1 => ?_)
  · exact m_throwS hx hb hst hown (cls := "java/lang/IndexOutOfBoundsException") (ik := 36) (is := 65) (ic := 40) x_fit36 (hts (.classLink RX3 36 "java/lang/IndexOutOfBoundsException") (by decide +kernel)) (hts (.initialized "java/lang/IndexOutOfBoundsException") (by decide +kernel)) (x_hat36 hE.1.2.2.2.2.2 (fun w h => hts w (List.mem_cons_of_mem _ (List.mem_append_left _ (List.mem_append_right _ h))))) x_good36 (text := "no such place of the table") (by decide) hE hI (by rw [hml]; exact hl.1) dX3_setLine_10 dX3_setLine_13 dX3_setLine_14 dX3_setLine_16 dX3_setLine_19 htab hlocks (by decide) (Nat.le_of_ble_eq_true rfl) (Or.inl ⟨rfl, inN_neg c_1⟩)
  · refine lv_iload_n hx hb dX3_setLine_4 rfl (lv_at hl 1 rfl) ?_
    refine lv_bipush (v := nI 16) hx hb dX3_setLine_5 (by decide) ?_
    refine lv_icmp_lt (tgt := 20) hx hb dX3_setLine_7 (by decide) (fun c_7 => ?_) (fun c_7 => ?_)
    · have hin0 : inN p0 16 = true := inN_lt c_1 c_7
      obtain ⟨j, hj, rfl⟩ := inN_ex hin0 (by omega)
      have htnj := tn_nI (j := j) (by omega)
      have hl : lv_has ls 5 [(0, .ref (ad 0)), (1, .int (nI j)), (2, .int p1), (3, .int p2)] := hl
      refine lv_iload_n hx hb dX3_setLine_20 rfl (lv_at hl 2 rfl) ?_
      refine lv_bipush (v := (-9)) hx hb dX3_setLine_21 (by decide) ?_
      refine lv_icmp_lt (tgt := 32) hx hb dX3_setLine_23 (by decide) (fun c_23 => ?_) (fun c_23 => ?_)
      · exact m_throwS hx hb hst hown (cls := "java/lang/IllegalArgumentException") (ik := 67) (is := 69) (ic := 71) x_fit67 (hts (.classLink RX3 67 "java/lang/IllegalArgumentException") (by decide +kernel)) (hts (.initialized "java/lang/IllegalArgumentException") (by decide +kernel)) (x_hat67 hE.1.2.2.2.2.2 (fun w h => hts w (List.mem_cons_of_mem _ (List.mem_append_right _ h)))) x_good67 (text := "too early or too late") (by decide) hE hI (by rw [hml]; exact hl.1) dX3_setLine_32 dX3_setLine_35 dX3_setLine_36 dX3_setLine_38 dX3_setLine_41 htab hlocks (by decide) (Nat.le_of_ble_eq_true rfl) (Or.inr ⟨rfl, hin0, by rw [in9_lo c_23] <;> rfl⟩)
      · refine lv_iload_n hx hb dX3_setLine_26 rfl (lv_at hl 2 rfl) ?_
        refine lv_bipush (v := nI 9) hx hb dX3_setLine_27 (by decide) ?_
        refine lv_icmp_le (tgt := 42) hx hb dX3_setLine_29 (by decide) (fun c_29 => ?_) (fun c_29 => ?_)
        · refine lv_iload_n hx hb dX3_setLine_42 rfl (lv_at hl 3 rfl) ?_
          refine m_callSi (As := [.int p2]) (rest := []) ⟨hx, hb, hml, hown, hts⟩ hE hI (c_X3_isCode k l ad N g _ p2 ) (va_cwS 1 hts gX3_setLine_X3_isCode rfl rfl rfl (by decide +kernel) ⟨Nat.le_of_ble_eq_true rfl, Nat.le_of_ble_eq_true rfl⟩) rfl hl.1 rfl (Nat.le_of_ble_eq_true rfl) dX3_setLine_43 ⟨Nat.le_of_ble_eq_true rfl, Nat.le_of_ble_eq_true rfl⟩ (m_deti (fun H locs hI => ?_))
          refine m_zneB (tgt := 59) hx hb dX3_setLine_46 (by decide) (fun c_46 => ?_) (fun c_46 => ?_)
          · have hin9 : in9 p1 = true := in9_yes c_23 c_29
            obtain ⟨q, hq, rfl⟩ := inN_ex c_46 (by omega)
            have htnq := tn_nI (j := q) (by omega)
            have hl : lv_has ls 5 [(0, .ref (ad 0)), (1, .int (nI j)), (2, .int p1), (3, .int (nI q))] := hl
            refine lv_aload_n hx hb dX3_setLine_59 rfl (lv_at hl 0 rfl) ?_
            refine m_get (ci := 3) (C := RX3) (T := TX3) (N' := 10) hx hb hts (by decide +kernel) hown hE hI 0 (by omega) h0 rfl 0 (by decide) (hts (.fieldLink RX3 10 "TapePrinter" "wire" "LTapePrinter$Wire;") (by decide +kernel)) rfl dX3_setLine_60 ?_
            refine lv_iload_n hx hb dX3_setLine_63 rfl (lv_at hl 1 rfl) ?_
            refine m_callVi (As := [.int (nI j)]) (rest := []) ⟨hx, hb, hml, hown, hts⟩ hE hI (c_X2_lateAt k l ad N g _ play lat gar j (by omega) hWi (by omega)) (cwV 1 hts gX3_setLine_X2_lateAt rfl rfl rfl (by decide +kernel) ⟨Nat.le_of_ble_eq_true rfl, Nat.le_of_ble_eq_true rfl⟩) (i := 1) (by omega) h1 rfl rfl hl.1 rfl (Nat.le_of_ble_eq_true rfl) dX3_setLine_64 ⟨Nat.le_of_ble_eq_true rfl, Nat.le_of_ble_eq_true rfl⟩ (m_deti (fun H locs hI => ?_))
            refine lv_istore (lv' := [(4, .int (lat j)), (0, .ref (ad 0)), (1, .int (nI j)), (2, .int p1), (3, .int (nI q))]) hx hb dX3_setLine_67 hl (by decide) rfl (fun ls hl => ?_)
            refine lv_aload_n hx hb dX3_setLine_69 rfl (lv_at hl 1 rfl) ?_
            refine m_get (ci := 3) (C := RX3) (T := TX3) (N' := 10) hx hb hts (by decide +kernel) hown hE hI 0 (by omega) h0 rfl 0 (by decide) (hts (.fieldLink RX3 10 "TapePrinter" "wire" "LTapePrinter$Wire;") (by decide +kernel)) rfl dX3_setLine_70 ?_
            refine lv_iload_n hx hb dX3_setLine_73 rfl (lv_at hl 2 rfl) ?_
            refine lv_iload_n hx hb dX3_setLine_74 rfl (lv_at hl 3 rfl) ?_
            refine lv_iload_n hx hb dX3_setLine_75 rfl (lv_at hl 4 rfl) ?_
            refine m_callVv (As := [.int (nI j), .int p1, .int (nI q)]) (rest := []) ⟨hx, hb, hml, hown, hts⟩ hE hI (c_X2_change k l ad N g _ play lat gar j p1 q (by omega) hWi (by omega)) (cwV 3 hts gX3_setLine_X2_change rfl rfl rfl (by decide +kernel) ⟨Nat.le_of_ble_eq_true rfl, Nat.le_of_ble_eq_true rfl⟩) (i := 1) (by omega) h1 rfl rfl hl.1 rfl (Nat.le_of_ble_eq_true rfl) dX3_setLine_76 ⟨Nat.le_of_ble_eq_true rfl, Nat.le_of_ble_eq_true rfl⟩ (m_detv (fun H locs hI => ?_))
            obtain ⟨g1, hg1⟩ : ∃ zz, zz = va_up (va_up g 3 (.inl (k.2.1.1, 16, .inl (upd lat j p1)))) 5 (.inl (k.2.1.1, 16, .inl (upd (fun j => nI (gar j)) j (nI q)))) := ⟨_, rfl⟩
            replace hI : mI k ad N g1 (mA ad N s.heap.size) s H locs := by rw [hg1]; exact hI
            have m_1 : g1 0 = .inr (3, [.ref (ad 1), .ref (ad 6), .ref (ad 48), .int (nI rd), .int (bI fig), .int (bI uns), .int (nI came), .int mis, .int lost, .int bel]) := by rw [hg1, va_up_ne _ _ (by omega), va_up_ne _ _ (by omega)]; exact h0
            have m_2 : g1 1 = .inr (2, [.ref (ad 2), .ref (ad 4), .int (nI play)]) := by rw [hg1, va_up_ne _ _ (by omega), va_up_ne _ _ (by omega)]; exact h1
            have m_3 : g1 48 = .inr (0, [.ref (ad 49), .int (nI n)]) := by rw [hg1, va_up_ne _ _ (by omega), va_up_ne _ _ (by omega)]; exact h48
            have m_4 : g1 49 = .inl (k.2.1.1, 120, .inl (fun j => nI (T j))) := by rw [hg1, va_up_ne _ _ (by omega), va_up_ne _ _ (by omega)]; exact h49
            have m_5 : g1 6 = .inr (1, [.ref (ad 7), .int (nI fi), .int (nI u)]) := by rw [hg1, va_up_ne _ _ (by omega), va_up_ne _ _ (by omega)]; exact h6
            refine lv_iload hx hb dX3_setLine_79 (lv_at hl 0 rfl) ?_
            have hk9 : ∀ i, i ≠ 3 → i ≠ 5 → g1 i = g i := fun i h3 h5 => by rw [hg1, va_up_ne _ _ h5, va_up_ne _ _ h3]
            have hWi9 : CWi k ad g1 play (upd lat j p1) (va_up gar j q) := by rw [hg1]; exact hWi.change j p1 q
            refine vx_ret ?_
            refine W.widen (k := 1) (n := 6) (by omega) (by omega) ?_
            exact m_iret hx hb hr hlocks hI (⟨hin0, by rw [hin9, c_46] <;> rfl, by rw [htnj], by rw [htnj, htnq]; exact ⟨(hk9 0 (by omega) (by omega)).trans h0, hWi9, hSh.kept (fun i h1 h2 => hk9 i (by omega) (by omega)), ⟨(hk9 48 (by omega) (by omega)).trans h48, (hk9 49 (by omega) (by omega)).trans h49⟩⟩, fun i hi => hk9 i (by omega) (by omega)⟩) dX3_setLine_81
          · exact m_throwS hx hb hst hown (cls := "java/lang/IllegalArgumentException") (ik := 67) (is := 72) (ic := 71) x_fit67 (hts (.classLink RX3 67 "java/lang/IllegalArgumentException") (by decide +kernel)) (hts (.initialized "java/lang/IllegalArgumentException") (by decide +kernel)) (x_hat67 hE.1.2.2.2.2.2 (fun w h => hts w (List.mem_cons_of_mem _ (List.mem_append_right _ h)))) x_good67 (text := "no such units") (by decide) hE hI (by rw [hml]; exact hl.1) dX3_setLine_49 dX3_setLine_52 dX3_setLine_53 dX3_setLine_55 dX3_setLine_58 htab hlocks (by decide) (Nat.le_of_ble_eq_true rfl) (Or.inr ⟨rfl, hin0, by rw [c_46, Bool.and_false]⟩)
        · exact m_throwS hx hb hst hown (cls := "java/lang/IllegalArgumentException") (ik := 67) (is := 69) (ic := 71) x_fit67 (hts (.classLink RX3 67 "java/lang/IllegalArgumentException") (by decide +kernel)) (hts (.initialized "java/lang/IllegalArgumentException") (by decide +kernel)) (x_hat67 hE.1.2.2.2.2.2 (fun w h => hts w (List.mem_cons_of_mem _ (List.mem_append_right _ h)))) x_good67 (text := "too early or too late") (by decide) hE hI (by rw [hml]; exact hl.1) dX3_setLine_32 dX3_setLine_35 dX3_setLine_36 dX3_setLine_38 dX3_setLine_41 htab hlocks (by decide) (Nat.le_of_ble_eq_true rfl) (Or.inr ⟨rfl, hin0, by rw [in9_hi c_29] <;> rfl⟩)
    · exact m_throwS hx hb hst hown (cls := "java/lang/IndexOutOfBoundsException") (ik := 36) (is := 65) (ic := 40) x_fit36 (hts (.classLink RX3 36 "java/lang/IndexOutOfBoundsException") (by decide +kernel)) (hts (.initialized "java/lang/IndexOutOfBoundsException") (by decide +kernel)) (x_hat36 hE.1.2.2.2.2.2 (fun w h => hts w (List.mem_cons_of_mem _ (List.mem_append_left _ (List.mem_append_right _ h))))) x_good36 (text := "no such place of the table") (by decide) hE hI (by rw [hml]; exact hl.1) dX3_setLine_10 dX3_setLine_13 dX3_setLine_14 dX3_setLine_16 dX3_setLine_19 htab hlocks (by decide) (Nat.le_of_ble_eq_true rfl) (Or.inl ⟨rfl, inN_nlt c_7⟩)
set_option maxHeartbeats 8000000 in
set_option maxRecDepth 100000 in
theorem c_X3_setPlay (k : mC) (l : Launch) (hst : l.stackTraces = false) (ad : Nat → Nat) (N : Nat) (g : Nat → va_E) (sz : Nat) (uns : Bool) (play rd n : Nat) (lat : Nat → Int32) (gar T : Nat → Nat) (came : Nat) (mis lost bel : Int32) (fig : Bool) (fi u : Nat) (z : Nat → Nat) (F : Nat → Nat → Nat) (r : Nat → Option Nat) (p0 : Int32) (hN : 50 ≤ N) (hW : CW play rd n lat gar T) (hwf : cWf (fi, u, z, F)) (hcame : came < 2000000000) (hC : CR k ad g uns play rd n lat gar T (came, mis, lost, bel, fig, fi, u, z, F) r)  : mXi k l yX3_setPlay wsX3_setPlay { frames := 6, cells := 1, slots := 6, locals := 82 } ad N g sz [.ref (ad 0), .int p0] (fun r1 g1 => inN p0 10 = true ∧ r1 = nI play ∧ CR k ad g1 uns (tn p0) rd n lat gar T (came, mis, lost, bel, fig, fi, u, z, F) r ∧ ∀ i, 50 ≤ i → g1 i = g i) (fun E => E = "java/lang/IllegalArgumentException" ∧ inN p0 10 = false) := by
  refine mOfX (cc := cX3_setPlay) (maxL := 3) (ret := (some .int)) (by decide) rfl (Nat.le_of_ble_eq_true rfl) ?_
  intro p e s m below meth c hx hb hr hts hown hlocks hml htab hE hI ls hl
  have hl : lv_has ls 3 [(0, .ref (ad 0)), (1, .int p0)] := hl
  have h0 : g 0 = .inr (3, [.ref (ad 1), .ref (ad 6), .ref (ad 48), .int (nI rd), .int (bI fig), .int (bI uns), .int (nI came), .int mis, .int lost, .int bel]) := hC.1
  have hWi : CWi k ad g play lat gar := hC.2.1
  have hSh : CSh k ad g fi u z F r := hC.2.2.1
  have h48 : g 48 = .inr (0, [.ref (ad 49), .int (nI n)]) := hC.2.2.2.1
  have h49 : g 49 = .inl (k.2.1.1, 120, .inl (fun j => nI (T j))) := hC.2.2.2.2
  have hr48 : CRow k ad g 48 120 n (fun j => nI (T j)) := ⟨h48, h49⟩
  have h1 := hWi.1
  have h6 : g 6 = .inr (1, [.ref (ad 7), .int (nI fi), .int (nI u)]) := hSh.1
  obtain ⟨hplay, hrd, hn, hgar, hT, hlat⟩ := id hW
  have hfi : fi < 20 := hwf.1
  have hu0 : 0 < u := hwf.2.1
  have hu : u ≤ 20 := hwf.2.2
  refine lv_iload_n hx hb dX3_setPlay_0 rfl (lv_at hl 1 rfl) ?_
  refine lv_if_lt (tgt := 10) hx hb dX3_setPlay_1 (by decide) (fun c_1 => ?_) (fun c_1 => ?_)
  · exact m_throwS hx hb hst hown (cls := "java/lang/IllegalArgumentException") (ik := 67) (is := 81) (ic := 71) x_fit67 (hts (.classLink RX3 67 "java/lang/IllegalArgumentException") (by decide +kernel)) (hts (.initialized "java/lang/IllegalArgumentException") (by decide +kernel)) (x_hat67 hE.1.2.2.2.2.2 (fun w h => hts w (List.mem_cons_of_mem _ (List.mem_append_right _ h)))) x_good67 (text := "no such play") (by decide) hE hI (by rw [hml]; exact hl.1) dX3_setPlay_10 dX3_setPlay_13 dX3_setPlay_14 dX3_setPlay_16 dX3_setPlay_19 htab hlocks (by decide) (Nat.le_of_ble_eq_true rfl) (⟨rfl, inN_neg c_1⟩)
  · refine lv_iload_n hx hb dX3_setPlay_4 rfl (lv_at hl 1 rfl) ?_
    refine lv_bipush (v := nI 9) hx hb dX3_setPlay_5 (by decide) ?_
    refine lv_icmp_le (tgt := 20) hx hb dX3_setPlay_7 (by decide) (fun c_7 => ?_) (fun c_7 => ?_)
    · have hin0 : inN p0 10 = true := inN_le c_1 c_7 (by omega)
      obtain ⟨j, hj, rfl⟩ := inN_ex hin0 (by omega)
      have htnj := tn_nI (j := j) (by omega)
      have hl : lv_has ls 3 [(0, .ref (ad 0)), (1, .int (nI j))] := hl
      refine lv_aload_n hx hb dX3_setPlay_20 rfl (lv_at hl 0 rfl) ?_
      refine m_get (ci := 3) (C := RX3) (T := TX3) (N' := 10) hx hb hts (by decide +kernel) hown hE hI 0 (by omega) h0 rfl 0 (by decide) (hts (.fieldLink RX3 10 "TapePrinter" "wire" "LTapePrinter$Wire;") (by decide +kernel)) rfl dX3_setPlay_21 ?_
      refine m_callVi (As := []) (rest := []) ⟨hx, hb, hml, hown, hts⟩ hE hI (c_X2_play k l ad N g _ play lat gar  (by omega) hWi ) (cwV 0 hts gX3_setPlay_X2_play rfl rfl rfl (by decide +kernel) ⟨Nat.le_of_ble_eq_true rfl, Nat.le_of_ble_eq_true rfl⟩) (i := 1) (by omega) h1 rfl rfl hl.1 rfl (Nat.le_of_ble_eq_true rfl) dX3_setPlay_24 ⟨Nat.le_of_ble_eq_true rfl, Nat.le_of_ble_eq_true rfl⟩ (m_deti (fun H locs hI => ?_))
      refine lv_istore_n (lv' := [(2, .int (nI play)), (0, .ref (ad 0)), (1, .int (nI j))]) hx hb dX3_setPlay_27 rfl hl (by decide) rfl (fun ls hl => ?_)
      refine lv_aload_n hx hb dX3_setPlay_28 rfl (lv_at hl 1 rfl) ?_
      refine m_get (ci := 3) (C := RX3) (T := TX3) (N' := 10) hx hb hts (by decide +kernel) hown hE hI 0 (by omega) h0 rfl 0 (by decide) (hts (.fieldLink RX3 10 "TapePrinter" "wire" "LTapePrinter$Wire;") (by decide +kernel)) rfl dX3_setPlay_29 ?_
      refine lv_iload_n hx hb dX3_setPlay_32 rfl (lv_at hl 2 rfl) ?_
      refine m_callVv (As := [.int (nI j)]) (rest := []) ⟨hx, hb, hml, hown, hts⟩ hE hI (c_X2_changePlay k l ad N g _ play lat gar j (by omega) hWi ) (cwV 1 hts gX3_setPlay_X2_changePlay rfl rfl rfl (by decide +kernel) ⟨Nat.le_of_ble_eq_true rfl, Nat.le_of_ble_eq_true rfl⟩) (i := 1) (by omega) h1 rfl rfl hl.1 rfl (Nat.le_of_ble_eq_true rfl) dX3_setPlay_33 ⟨Nat.le_of_ble_eq_true rfl, Nat.le_of_ble_eq_true rfl⟩ (m_detv (fun H locs hI => ?_))
      obtain ⟨g1, hg1⟩ : ∃ zz, zz = va_up g 1 (.inr (2, [.ref (ad 2), .ref (ad 4), .int (nI j)])) := ⟨_, rfl⟩
      replace hI : mI k ad N g1 (mA ad N s.heap.size) s H locs := by rw [hg1]; exact hI
      have m_1 : g1 0 = .inr (3, [.ref (ad 1), .ref (ad 6), .ref (ad 48), .int (nI rd), .int (bI fig), .int (bI uns), .int (nI came), .int mis, .int lost, .int bel]) := by rw [hg1, va_up_ne _ _ (by omega)]; exact h0
      have m_2 : g1 1 = .inr (2, [.ref (ad 2), .ref (ad 4), .int (nI j)]) := by rw [hg1, va_up_self]
      have m_3 : g1 48 = .inr (0, [.ref (ad 49), .int (nI n)]) := by rw [hg1, va_up_ne _ _ (by omega)]; exact h48
      have m_4 : g1 49 = .inl (k.2.1.1, 120, .inl (fun j => nI (T j))) := by rw [hg1, va_up_ne _ _ (by omega)]; exact h49
      have m_5 : g1 6 = .inr (1, [.ref (ad 7), .int (nI fi), .int (nI u)]) := by rw [hg1, va_up_ne _ _ (by omega)]; exact h6
      refine lv_iload_n hx hb dX3_setPlay_36 rfl (lv_at hl 0 rfl) ?_
      have hk9 : ∀ i, i ≠ 1 → g1 i = g i := fun i h3 => by rw [hg1, va_up_ne _ _ h3]
      have hWi9 : CWi k ad g1 j lat gar := by rw [hg1]; exact hWi.play j
      refine vx_ret ?_
      refine W.widen (k := 1) (n := 6) (by omega) (by omega) ?_
      exact m_iret hx hb hr hlocks hI (⟨hin0, rfl, by rw [htnj]; exact ⟨(hk9 0 (by omega)).trans h0, hWi9, hSh.kept (fun i h1 h2 => hk9 i (by omega)), ⟨(hk9 48 (by omega)).trans h48, (hk9 49 (by omega)).trans h49⟩⟩, fun i hi => hk9 i (by omega)⟩) dX3_setPlay_37
    · exact m_throwS hx hb hst hown (cls := "java/lang/IllegalArgumentException") (ik := 67) (is := 81) (ic := 71) x_fit67 (hts (.classLink RX3 67 "java/lang/IllegalArgumentException") (by decide +kernel)) (hts (.initialized "java/lang/IllegalArgumentException") (by decide +kernel)) (x_hat67 hE.1.2.2.2.2.2 (fun w h => hts w (List.mem_cons_of_mem _ (List.mem_append_right _ h)))) x_good67 (text := "no such play") (by decide) hE hI (by rw [hml]; exact hl.1) dX3_setPlay_10 dX3_setPlay_13 dX3_setPlay_14 dX3_setPlay_16 dX3_setPlay_19 htab hlocks (by decide) (Nat.le_of_ble_eq_true rfl) (⟨rfl, inN_nle c_7 (by omega)⟩)
set_option maxHeartbeats 8000000 in
set_option maxRecDepth 100000 in
theorem c_X3_setUnshift (k : mC) (l : Launch) (ad : Nat → Nat) (N : Nat) (g : Nat → va_E) (sz : Nat) (uns : Bool) (play rd n : Nat) (lat : Nat → Int32) (gar T : Nat → Nat) (came : Nat) (mis lost bel : Int32) (fig : Bool) (fi u : Nat) (z : Nat → Nat) (F : Nat → Nat → Nat) (r : Nat → Option Nat) (b0 : Bool) (hN : 50 ≤ N) (hW : CW play rd n lat gar T) (hwf : cWf (fi, u, z, F)) (hcame : came < 2000000000) (hC : CR k ad g uns play rd n lat gar T (came, mis, lost, bel, fig, fi, u, z, F) r)  : mCi k l yX3_setUnshift wsX3_setUnshift { frames := 0, cells := 0, slots := 0, locals := 0 } ad N g sz [.ref (ad 0), .int (bI b0)] (fun r1 g1 => r1 = bI uns ∧ CR k ad g1 b0 play rd n lat gar T (came, mis, lost, bel, fig, fi, u, z, F) r ∧ ∀ i, 50 ≤ i → g1 i = g i) := by
  refine mOf (Qc := fun z9 => va_Qi (fun r1 g1 => r1 = bI uns ∧ CR k ad g1 b0 play rd n lat gar T (came, mis, lost, bel, fig, fi, u, z, F) r ∧ ∀ i, 50 ≤ i → g1 i = g i) (mB k ad N) (mA ad N z9)) (cc := cX3_setUnshift) (maxL := 3) (ret := (some .boolean)) (by decide) rfl (Nat.le_of_ble_eq_true rfl) ?_
  intro p e s m below meth c hx hb hr hts hown hlocks hml hin hE hI ls hl
  have hl : lv_has ls 3 [(0, .ref (ad 0)), (1, .int (bI b0))] := hl
  have h0 : g 0 = .inr (3, [.ref (ad 1), .ref (ad 6), .ref (ad 48), .int (nI rd), .int (bI fig), .int (bI uns), .int (nI came), .int mis, .int lost, .int bel]) := hC.1
  have hWi : CWi k ad g play lat gar := hC.2.1
  have hSh : CSh k ad g fi u z F r := hC.2.2.1
  have h48 : g 48 = .inr (0, [.ref (ad 49), .int (nI n)]) := hC.2.2.2.1
  have h49 : g 49 = .inl (k.2.1.1, 120, .inl (fun j => nI (T j))) := hC.2.2.2.2
  have hr48 : CRow k ad g 48 120 n (fun j => nI (T j)) := ⟨h48, h49⟩
  have h1 := hWi.1
  have h6 : g 6 = .inr (1, [.ref (ad 7), .int (nI fi), .int (nI u)]) := hSh.1
  obtain ⟨hplay, hrd, hn, hgar, hT, hlat⟩ := id hW
  have hfi : fi < 20 := hwf.1
  have hu0 : 0 < u := hwf.2.1
  have hu : u ≤ 20 := hwf.2.2
  refine lv_aload_n hx hb dX3_setUnshift_0 rfl (lv_at hl 0 rfl) ?_
  refine m_get (ci := 3) (C := RX3) (T := TX3) (N' := 10) hx hb hts (by decide +kernel) hown hE hI 0 (by omega) h0 rfl 5 (by decide) (hts (.fieldLink RX3 90 "TapePrinter" "unshifts" "Z") (by decide +kernel)) rfl dX3_setUnshift_1 ?_
  refine lv_istore_n (lv' := [(2, .int (bI uns)), (0, .ref (ad 0)), (1, .int (bI b0))]) hx hb dX3_setUnshift_4 rfl hl (by decide) rfl (fun ls hl => ?_)
  refine lv_aload_n hx hb dX3_setUnshift_5 rfl (lv_at hl 1 rfl) ?_
  refine lv_iload_n hx hb dX3_setUnshift_6 rfl (lv_at hl 2 rfl) ?_
  refine m_put (ci := 3) (C := RX3) (T := TX3) (N' := 10) (ty := .boolean) hx hb hts (by decide +kernel) tyX3 tyX3_ok nmX3 hown hE hI 0 (by omega) h0 rfl 5 (by decide) (hts (.fieldLink RX3 90 "TapePrinter" "unshifts" "Z") (by decide +kernel)) rfl (by decide +kernel) (bI_nar _) (bI_fit _) (Nat.le_of_ble_eq_true rfl) dX3_setUnshift_7 (fun H locs hI => ?_)
  obtain ⟨g1, hg1⟩ : ∃ zz, zz = va_up g 0 (.inr (3, [.ref (ad 1), .ref (ad 6), .ref (ad 48), .int (nI rd), .int (bI fig), .int (bI b0), .int (nI came), .int mis, .int lost, .int bel])) := ⟨_, rfl⟩
  replace hI : mI k ad N g1 (mA ad N s.heap.size) s H locs := by rw [hg1]; exact hI
  have m_1 : g1 0 = .inr (3, [.ref (ad 1), .ref (ad 6), .ref (ad 48), .int (nI rd), .int (bI fig), .int (bI b0), .int (nI came), .int mis, .int lost, .int bel]) := by rw [hg1, va_up_self]
  have m_2 : g1 1 = .inr (2, [.ref (ad 2), .ref (ad 4), .int (nI play)]) := by rw [hg1, va_up_ne _ _ (by omega)]; exact h1
  have m_3 : g1 48 = .inr (0, [.ref (ad 49), .int (nI n)]) := by rw [hg1, va_up_ne _ _ (by omega)]; exact h48
  have m_4 : g1 49 = .inl (k.2.1.1, 120, .inl (fun j => nI (T j))) := by rw [hg1, va_up_ne _ _ (by omega)]; exact h49
  have m_5 : g1 6 = .inr (1, [.ref (ad 7), .int (nI fi), .int (nI u)]) := by rw [hg1, va_up_ne _ _ (by omega)]; exact h6
  refine lv_iload_n hx hb dX3_setUnshift_10 rfl (lv_at hl 0 rfl) ?_
  have hk9 : ∀ i, i ≠ 0 → g1 i = g i := fun i h3 => by rw [hg1, va_up_ne _ _ h3]
  exact m_zret (v := uns) hx hb hr hlocks hI (⟨rfl, ⟨m_1, hWi.kept (fun i h1 h2 => hk9 i (by omega)), hSh.kept (fun i h1 h2 => hk9 i (by omega)), ⟨(hk9 48 (by omega)).trans h48, (hk9 49 (by omega)).trans h49⟩⟩, fun i hi => hk9 i (by omega)⟩) dX3_setUnshift_11
set_option maxHeartbeats 8000000 in
set_option maxRecDepth 100000 in
theorem c_X3_receive (k : mC) (l : Launch) (hst : l.stackTraces = false) (ad : Nat → Nat) (N : Nat) (g : Nat → va_E) (sz : Nat) (uns : Bool) (play rd n : Nat) (lat : Nat → Int32) (gar T : Nat → Nat) (came : Nat) (mis lost bel : Int32) (fig : Bool) (fi u : Nat) (z : Nat → Nat) (F : Nat → Nat → Nat) (r : Nat → Option Nat) (p0 : Int32) (hN : 50 ≤ N) (hW : CW play rd n lat gar T) (hwf : cWf (fi, u, z, F)) (hcame : came < 2000000000) (hC : CR k ad g uns play rd n lat gar T (came, mis, lost, bel, fig, fi, u, z, F) r)  : mXi k l yX3_receive wsX3_receive { frames := 6, cells := 1, slots := 6, locals := 107 } ad N g sz [.ref (ad 0), .int p0] (fun r1 g1 => inN p0 32 = true ∧ r1 = nI (rdY play lat gar came (tn p0)) ∧ CR k ad g1 uns play rd n lat gar T (yIn cNl cFull cAdd uns play lat gar (tn p0) (came, mis, lost, bel, fig, fi, u, z, F)) r ∧ ∀ i, 50 ≤ i → g1 i = g i) (fun E => E = "java/lang/IndexOutOfBoundsException" ∧ inN p0 32 = false) := by
  refine mOfX (cc := cX3_receive) (maxL := 2) (ret := (some .int)) (by decide) rfl (Nat.le_of_ble_eq_true rfl) ?_
  intro p e s m below meth c hx hb hr hts hown hlocks hml htab hE hI ls hl
  have hl : lv_has ls 2 [(0, .ref (ad 0)), (1, .int p0)] := hl
  have h0 : g 0 = .inr (3, [.ref (ad 1), .ref (ad 6), .ref (ad 48), .int (nI rd), .int (bI fig), .int (bI uns), .int (nI came), .int mis, .int lost, .int bel]) := hC.1
  have hWi : CWi k ad g play lat gar := hC.2.1
  have hSh : CSh k ad g fi u z F r := hC.2.2.1
  have h48 : g 48 = .inr (0, [.ref (ad 49), .int (nI n)]) := hC.2.2.2.1
  have h49 : g 49 = .inl (k.2.1.1, 120, .inl (fun j => nI (T j))) := hC.2.2.2.2
  have hr48 : CRow k ad g 48 120 n (fun j => nI (T j)) := ⟨h48, h49⟩
  have h1 := hWi.1
  have h6 : g 6 = .inr (1, [.ref (ad 7), .int (nI fi), .int (nI u)]) := hSh.1
  obtain ⟨hplay, hrd, hn, hgar, hT, hlat⟩ := id hW
  have hfi : fi < 20 := hwf.1
  have hu0 : 0 < u := hwf.2.1
  have hu : u ≤ 20 := hwf.2.2
  refine lv_iload_n hx hb dX3_receive_0 rfl (lv_at hl 1 rfl) ?_
  refine m_callSi (As := [.int p0]) (rest := []) ⟨hx, hb, hml, hown, hts⟩ hE hI (c_X3_isCode k l ad N g _ p0 ) (va_cwS 1 hts gX3_receive_X3_isCode rfl rfl rfl (by decide +kernel) ⟨Nat.le_of_ble_eq_true rfl, Nat.le_of_ble_eq_true rfl⟩) rfl hl.1 rfl (Nat.le_of_ble_eq_true rfl) dX3_receive_1 ⟨Nat.le_of_ble_eq_true rfl, Nat.le_of_ble_eq_true rfl⟩ (m_deti (fun H locs hI => ?_))
  refine m_zneB (tgt := 17) hx hb dX3_receive_4 (by decide) (fun c_4 => ?_) (fun c_4 => ?_)
  · obtain ⟨j, hj, rfl⟩ := inN_ex c_4 (by omega)
    have htnj := tn_nI (j := j) (by omega)
    have hl : lv_has ls 2 [(0, .ref (ad 0)), (1, .int (nI j))] := hl
    refine lv_aload_n hx hb dX3_receive_17 rfl (lv_at hl 0 rfl) ?_
    refine lv_iload_n hx hb dX3_receive_18 rfl (lv_at hl 1 rfl) ?_
    refine m_callVi (As := [.int (nI j)]) (rest := []) ⟨hx, hb, hml, hown, hts⟩ hE hI (c_X3_takeIn k l ad N g _ uns play rd n lat gar T came mis lost bel fig fi u z F r j (by omega) hW hwf (by omega) hC (by omega)) (cwV 1 hts gX3_receive_X3_takeIn rfl rfl rfl (by decide +kernel) ⟨Nat.le_of_ble_eq_true rfl, Nat.le_of_ble_eq_true rfl⟩) (i := 0) (by omega) h0 rfl rfl hl.1 rfl (Nat.le_of_ble_eq_true rfl) dX3_receive_19 ⟨Nat.le_of_ble_eq_true rfl, Nat.le_of_ble_eq_true rfl⟩ (fun r9 g9 H locs hp hI => ?_)
    obtain ⟨hrr, hC9, hk9⟩ := hp
    subst hrr
    refine vx_ret ?_
    refine W.widen (k := 1) (n := 6) (by omega) (by omega) ?_
    exact m_iret hx hb hr hlocks hI (⟨c_4, by rw [htnj], by rw [htnj]; exact hC9, hk9⟩) dX3_receive_22
  · exact m_throwS hx hb hst hown (cls := "java/lang/IndexOutOfBoundsException") (ik := 36) (is := 50) (ic := 40) x_fit36 (hts (.classLink RX3 36 "java/lang/IndexOutOfBoundsException") (by decide +kernel)) (hts (.initialized "java/lang/IndexOutOfBoundsException") (by decide +kernel)) (x_hat36 hE.1.2.2.2.2.2 (fun w h => hts w (List.mem_cons_of_mem _ (List.mem_append_right _ h)))) x_good36 (text := "no such code") (by decide) hE hI (by rw [hml]; exact hl.1) dX3_receive_7 dX3_receive_10 dX3_receive_11 dX3_receive_13 dX3_receive_16 htab hlocks (by decide) (Nat.le_of_ble_eq_true rfl) (⟨rfl, c_4⟩)
set_option maxHeartbeats 8000000 in
set_option maxRecDepth 100000 in
theorem c_X3_punch (k : mC) (l : Launch) (hst : l.stackTraces = false) (ad : Nat → Nat) (N : Nat) (g : Nat → va_E) (sz : Nat) (uns : Bool) (play rd n : Nat) (lat : Nat → Int32) (gar T : Nat → Nat) (came : Nat) (mis lost bel : Int32) (fig : Bool) (fi u : Nat) (z : Nat → Nat) (F : Nat → Nat → Nat) (r : Nat → Option Nat) (p0 : Int32) (hN : 50 ≤ N) (hW : CW play rd n lat gar T) (hwf : cWf (fi, u, z, F)) (hcame : came < 2000000000) (hC : CR k ad g uns play rd n lat gar T (came, mis, lost, bel, fig, fi, u, z, F) r)  : mXi k l yX3_punch wsX3_punch { frames := 6, cells := 1, slots := 6, locals := 82 } ad N g sz [.ref (ad 0), .int p0] (fun r1 g1 => inN p0 32 = true ∧ n < 120 ∧ r1 = nI (n + 1) ∧ CR k ad g1 uns play rd (n + 1) lat gar (va_up T n (tn p0)) (came, mis, lost, bel, fig, fi, u, z, F) r ∧ ∀ i, 50 ≤ i → g1 i = g i) (fun E => (E = "java/lang/IndexOutOfBoundsException" ∧ inN p0 32 = false) ∨ (E = "java/lang/IllegalStateException" ∧ inN p0 32 = true ∧ n = 120)) := by
  refine mOfX (cc := cX3_punch) (maxL := 2) (ret := (some .int)) (by decide) rfl (Nat.le_of_ble_eq_true rfl) ?_
  intro p e s m below meth c hx hb hr hts hown hlocks hml htab hE hI ls hl
  have hl : lv_has ls 2 [(0, .ref (ad 0)), (1, .int p0)] := hl
  have h0 : g 0 = .inr (3, [.ref (ad 1), .ref (ad 6), .ref (ad 48), .int (nI rd), .int (bI fig), .int (bI uns), .int (nI came), .int mis, .int lost, .int bel]) := hC.1
  have hWi : CWi k ad g play lat gar := hC.2.1
  have hSh : CSh k ad g fi u z F r := hC.2.2.1
  have h48 : g 48 = .inr (0, [.ref (ad 49), .int (nI n)]) := hC.2.2.2.1
  have h49 : g 49 = .inl (k.2.1.1, 120, .inl (fun j => nI (T j))) := hC.2.2.2.2
  have hr48 : CRow k ad g 48 120 n (fun j => nI (T j)) := ⟨h48, h49⟩
  have h1 := hWi.1
  have h6 : g 6 = .inr (1, [.ref (ad 7), .int (nI fi), .int (nI u)]) := hSh.1
  obtain ⟨hplay, hrd, hn, hgar, hT, hlat⟩ := id hW
  have hfi : fi < 20 := hwf.1
  have hu0 : 0 < u := hwf.2.1
  have hu : u ≤ 20 := hwf.2.2
  refine lv_iload_n hx hb dX3_punch_0 rfl (lv_at hl 1 rfl) ?_
  refine m_callSi (As := [.int p0]) (rest := []) ⟨hx, hb, hml, hown, hts⟩ hE hI (c_X3_isCode k l ad N g _ p0 ) (va_cwS 1 hts gX3_punch_X3_isCode rfl rfl rfl (by decide +kernel) ⟨Nat.le_of_ble_eq_true rfl, Nat.le_of_ble_eq_true rfl⟩) rfl hl.1 rfl (Nat.le_of_ble_eq_true rfl) dX3_punch_1 ⟨Nat.le_of_ble_eq_true rfl, Nat.le_of_ble_eq_true rfl⟩ (m_deti (fun H locs hI => ?_))
  refine m_zneB (tgt := 17) hx hb dX3_punch_4 (by decide) (fun c_4 => ?_) (fun c_4 => ?_)
  · obtain ⟨j, hj, rfl⟩ := inN_ex c_4 (by omega)
    have htnj := tn_nI (j := j) (by omega)
    have hl : lv_has ls 2 [(0, .ref (ad 0)), (1, .int (nI j))] := hl
    refine lv_aload_n hx hb dX3_punch_17 rfl (lv_at hl 0 rfl) ?_
    refine m_get (ci := 3) (C := RX3) (T := TX3) (N' := 10) hx hb hts (by decide +kernel) hown hE hI 0 (by omega) h0 rfl 2 (by decide) (hts (.fieldLink RX3 28 "TapePrinter" "strip" "LTapePrinter$Row;") (by decide +kernel)) rfl dX3_punch_18 ?_
    refine m_callVi (As := []) (rest := []) ⟨hx, hb, hml, hown, hts⟩ hE hI (c_X0_room k l ad N g _ 48 120 n (fun j => nI (T j))  (by omega) (by omega) (by omega) ⟨h48, h49⟩) (cwV 0 hts gX3_punch_X0_room rfl rfl rfl (by decide +kernel) ⟨Nat.le_of_ble_eq_true rfl, Nat.le_of_ble_eq_true rfl⟩) (i := 48) (by omega) h48 rfl rfl hl.1 rfl (Nat.le_of_ble_eq_true rfl) dX3_punch_21 ⟨Nat.le_of_ble_eq_true rfl, Nat.le_of_ble_eq_true rfl⟩ (m_deti (fun H locs hI => ?_))
    refine lv_iconst (v := nI 1) hx hb dX3_punch_24 (by decide) ?_
    refine m_cgeN (tgt := 38) hx hb (by omega) (by omega) dX3_punch_25 (by decide) (fun c_25 => ?_) (fun c_25 => ?_)
    · refine lv_aload_n hx hb dX3_punch_38 rfl (lv_at hl 0 rfl) ?_
      refine m_get (ci := 3) (C := RX3) (T := TX3) (N' := 10) hx hb hts (by decide +kernel) hown hE hI 0 (by omega) h0 rfl 2 (by decide) (hts (.fieldLink RX3 28 "TapePrinter" "strip" "LTapePrinter$Row;") (by decide +kernel)) rfl dX3_punch_39 ?_
      refine lv_iload_n hx hb dX3_punch_42 rfl (lv_at hl 1 rfl) ?_
      refine m_callVi (As := [.int (nI j)]) (rest := []) ⟨hx, hb, hml, hown, hts⟩ hE hI (c_X0_add_in k l ad N g _ 48 120 n (fun j => nI (T j)) (nI j) (by omega) (by omega) (by omega) ⟨h48, h49⟩ (by omega)) (cwV 1 hts gX3_punch_X0_add rfl rfl rfl (by decide +kernel) ⟨Nat.le_of_ble_eq_true rfl, Nat.le_of_ble_eq_true rfl⟩) (i := 48) (by omega) h48 rfl rfl hl.1 rfl (Nat.le_of_ble_eq_true rfl) dX3_punch_43 ⟨Nat.le_of_ble_eq_true rfl, Nat.le_of_ble_eq_true rfl⟩ (m_deti (fun H locs hI => ?_))
      obtain ⟨g1, hg1⟩ : ∃ zz, zz = va_up (va_up g 49 (.inl (k.2.1.1, 120, .inl (upd (fun j => nI (T j)) n (nI j))))) 48 (.inr (0, [.ref (ad 49), .int (nI (n + 1))])) := ⟨_, rfl⟩
      replace hI : mI k ad N g1 (mA ad N s.heap.size) s H locs := by rw [hg1]; exact hI
      have m_1 : g1 0 = .inr (3, [.ref (ad 1), .ref (ad 6), .ref (ad 48), .int (nI rd), .int (bI fig), .int (bI uns), .int (nI came), .int mis, .int lost, .int bel]) := by rw [hg1, va_up_ne _ _ (by omega), va_up_ne _ _ (by omega)]; exact h0
      have m_2 : g1 1 = .inr (2, [.ref (ad 2), .ref (ad 4), .int (nI play)]) := by rw [hg1, va_up_ne _ _ (by omega), va_up_ne _ _ (by omega)]; exact h1
      have m_3 : g1 48 = .inr (0, [.ref (ad 49), .int (nI (n + 1))]) := by rw [hg1, va_up_self]
      have m_4 : g1 49 = .inl (k.2.1.1, 120, .inl (upd (fun j => nI (T j)) n (nI j))) := by rw [hg1, va_up_ne _ _ (by omega), va_up_self]
      have m_5 : g1 6 = .inr (1, [.ref (ad 7), .int (nI fi), .int (nI u)]) := by rw [hg1, va_up_ne _ _ (by omega), va_up_ne _ _ (by omega)]; exact h6
      refine lv_pop hx hb dX3_punch_46 rfl ?_
      refine lv_aload_n hx hb dX3_punch_47 rfl (lv_at hl 0 rfl) ?_
      refine m_get (ci := 3) (C := RX3) (T := TX3) (N' := 10) hx hb hts (by decide +kernel) hown hE hI 0 (by omega) m_1 rfl 2 (by decide) (hts (.fieldLink RX3 28 "TapePrinter" "strip" "LTapePrinter$Row;") (by decide +kernel)) rfl dX3_punch_48 ?_
      refine m_callVi (As := []) (rest := []) ⟨hx, hb, hml, hown, hts⟩ hE hI (c_X0_size k l ad N g1 _ 48 120 (n + 1) (upd (fun j => nI (T j)) n (nI j))  (by omega) (by omega) (by omega) ⟨m_3, m_4⟩) (cwV 0 hts gX3_punch_X0_size rfl rfl rfl (by decide +kernel) ⟨Nat.le_of_ble_eq_true rfl, Nat.le_of_ble_eq_true rfl⟩) (i := 48) (by omega) m_3 rfl rfl hl.1 rfl (Nat.le_of_ble_eq_true rfl) dX3_punch_51 ⟨Nat.le_of_ble_eq_true rfl, Nat.le_of_ble_eq_true rfl⟩ (m_deti (fun H locs hI => ?_))
      have hk9 : ∀ i, i < 48 ∨ 50 ≤ i → g1 i = g i := fun i hi => by rw [hg1, va_up_ne _ _ (by omega), va_up_ne _ _ (by omega)]
      have hT9 : g1 49 = .inl (k.2.1.1, 120, .inl (fun i => nI (va_up T n j i))) := by rw [m_4, upd_nI]
      refine vx_ret ?_
      refine W.widen (k := 1) (n := 6) (by omega) (by omega) ?_
      exact m_iret hx hb hr hlocks hI (⟨c_4, by omega, rfl, by rw [htnj]; exact ⟨m_1, hWi.kept (fun i h1 h2 => hk9 i (by omega)), hSh.kept (fun i h1 h2 => hk9 i (by omega)), ⟨m_3, hT9⟩⟩, fun i hi => hk9 i (by omega)⟩) dX3_punch_54
    · exact m_throwS hx hb hst hown (cls := "java/lang/IllegalStateException") (ik := 99) (is := 101) (ic := 103) x_fit99 (hts (.classLink RX3 99 "java/lang/IllegalStateException") (by decide +kernel)) (hts (.initialized "java/lang/IllegalStateException") (by decide +kernel)) (x_hat99 hE.1.2.2.2.2.2 (fun w h => hts w (List.mem_cons_of_mem _ (List.mem_append_right _ h)))) x_good99 (text := "the tape is full") (by decide) hE hI (by rw [hml]; exact hl.1) dX3_punch_28 dX3_punch_31 dX3_punch_32 dX3_punch_34 dX3_punch_37 htab hlocks (by decide) (Nat.le_of_ble_eq_true rfl) (Or.inr ⟨rfl, c_4, by omega⟩)
  · exact m_throwS hx hb hst hown (cls := "java/lang/IndexOutOfBoundsException") (ik := 36) (is := 50) (ic := 40) x_fit36 (hts (.classLink RX3 36 "java/lang/IndexOutOfBoundsException") (by decide +kernel)) (hts (.initialized "java/lang/IndexOutOfBoundsException") (by decide +kernel)) (x_hat36 hE.1.2.2.2.2.2 (fun w h => hts w (List.mem_cons_of_mem _ (List.mem_append_left _ (List.mem_append_right _ h))))) x_good36 (text := "no such code") (by decide) hE hI (by rw [hml]; exact hl.1) dX3_punch_7 dX3_punch_10 dX3_punch_11 dX3_punch_13 dX3_punch_16 htab hlocks (by decide) (Nat.le_of_ble_eq_true rfl) (Or.inl ⟨rfl, c_4⟩)
/-- whether a shift is punched ahead of a character -/
def tyS (uns : Bool) (T : Nat → Nat) (n j : Nat) : Bool := dep (cd j) && ((decide (26 < j) && decide (j < 53)) != fa uns T n)
def tyN (uns : Bool) (T : Nat → Nat) (n j : Nat) : Nat := if tyS uns T n j then 2 else 1
def tyT (uns : Bool) (T : Nat → Nat) (n j : Nat) : Nat → Nat := if tyS uns T n j then va_up (va_up T n (if decide (26 < j) && decide (j < 53) then 27 else 31)) (n + 1) (cd j) else va_up T n (cd j)
set_option maxHeartbeats 8000000 in
set_option maxRecDepth 100000 in
theorem c_X3_type (k : mC) (l : Launch) (hst : l.stackTraces = false) (ad : Nat → Nat) (N : Nat) (g : Nat → va_E) (sz : Nat) (uns : Bool) (play rd n : Nat) (lat : Nat → Int32) (gar T : Nat → Nat) (came : Nat) (mis lost bel : Int32) (fig : Bool) (fi u : Nat) (z : Nat → Nat) (F : Nat → Nat → Nat) (r : Nat → Option Nat) (p0 : Int32) (hN : 50 ≤ N) (hW : CW play rd n lat gar T) (hwf : cWf (fi, u, z, F)) (hcame : came < 2000000000) (hC : CR k ad g uns play rd n lat gar T (came, mis, lost, bel, fig, fi, u, z, F) r)  : mXi k l yX3_type wsX3_type { frames := 6, cells := 1, slots := 6, locals := 86 } ad N g sz [.ref (ad 0), .int p0] (fun r1 g1 => inC p0 = true ∧ n + tyN uns T n (tn p0) ≤ 120 ∧ r1 = nI (tyN uns T n (tn p0)) ∧ CR k ad g1 uns play rd (n + tyN uns T n (tn p0)) lat gar (tyT uns T n (tn p0)) (came, mis, lost, bel, fig, fi, u, z, F) r ∧ ∀ i, 50 ≤ i → g1 i = g i) (fun E => (E = "java/lang/IndexOutOfBoundsException" ∧ inC p0 = false) ∨ (E = "java/lang/IllegalStateException" ∧ inC p0 = true ∧ 120 < n + tyN uns T n (tn p0))) := by
  refine mOfX (cc := cX3_type) (maxL := 5) (ret := (some .int)) (by decide) rfl (Nat.le_of_ble_eq_true rfl) ?_
  intro p e s m below meth c hx hb hr hts hown hlocks hml htab hE hI ls hl
  have hl : lv_has ls 5 [(0, .ref (ad 0)), (1, .int p0)] := hl
  have h0 : g 0 = .inr (3, [.ref (ad 1), .ref (ad 6), .ref (ad 48), .int (nI rd), .int (bI fig), .int (bI uns), .int (nI came), .int mis, .int lost, .int bel]) := hC.1
  have hWi : CWi k ad g play lat gar := hC.2.1
  have hSh : CSh k ad g fi u z F r := hC.2.2.1
  have h48 : g 48 = .inr (0, [.ref (ad 49), .int (nI n)]) := hC.2.2.2.1
  have h49 : g 49 = .inl (k.2.1.1, 120, .inl (fun j => nI (T j))) := hC.2.2.2.2
  have hr48 : CRow k ad g 48 120 n (fun j => nI (T j)) := ⟨h48, h49⟩
  have h1 := hWi.1
  have h6 : g 6 = .inr (1, [.ref (ad 7), .int (nI fi), .int (nI u)]) := hSh.1
  obtain ⟨hplay, hrd, hn, hgar, hT, hlat⟩ := id hW
  have hfi : fi < 20 := hwf.1
  have hu0 : 0 < u := hwf.2.1
  have hu : u ≤ 20 := hwf.2.2
  refine lv_iload_n hx hb dX3_type_0 rfl (lv_at hl 1 rfl) ?_
  refine m_callSi (As := [.int p0]) (rest := []) ⟨hx, hb, hml, hown, hts⟩ hE hI (c_X3_isCharacter k l ad N g _ p0 ) (va_cwS 1 hts gX3_type_X3_isCharacter rfl rfl rfl (by decide +kernel) ⟨Nat.le_of_ble_eq_true rfl, Nat.le_of_ble_eq_true rfl⟩) rfl hl.1 rfl (Nat.le_of_ble_eq_true rfl) dX3_type_1 ⟨Nat.le_of_ble_eq_true rfl, Nat.le_of_ble_eq_true rfl⟩ (m_deti (fun H locs hI => ?_))
  refine m_zneB (tgt := 17) hx hb dX3_type_4 (by decide) (fun c_4 => ?_) (fun c_4 => ?_)
  · obtain ⟨j, h1j, hj, rfl⟩ := inC_ex c_4
    have htnj := tn_nI (j := j) (by omega)
    have hicj : inC (nI j) = true := c_4
    have hl : lv_has ls 5 [(0, .ref (ad 0)), (1, .int (nI j))] := hl
    refine lv_iload_n hx hb dX3_type_17 rfl (lv_at hl 1 rfl) ?_
    refine m_callSi (As := [.int (nI j)]) (rest := []) ⟨hx, hb, hml, hown, hts⟩ hE hI (c_X3_isFigure k l ad N g _ j (by omega)) (va_cwS 1 hts gX3_type_X3_isFigure rfl rfl rfl (by decide +kernel) ⟨Nat.le_of_ble_eq_true rfl, Nat.le_of_ble_eq_true rfl⟩) rfl hl.1 rfl (Nat.le_of_ble_eq_true rfl) dX3_type_18 ⟨Nat.le_of_ble_eq_true rfl, Nat.le_of_ble_eq_true rfl⟩ (m_deti (fun H locs hI => ?_))
    refine lv_istore_n (lv' := [(2, .int (bI (decide (26 < j) && decide (j < 53)))), (0, .ref (ad 0)), (1, .int (nI j))]) hx hb dX3_type_21 rfl hl (by decide) rfl (fun ls hl => ?_)
    refine lv_iload_n hx hb dX3_type_22 rfl (lv_at hl 2 rfl) ?_
    refine m_callSi (As := [.int (nI j)]) (rest := []) ⟨hx, hb, hml, hown, hts⟩ hE hI (c_X3_codeOf k l ad N g _ j (by omega)) (va_cwS 1 hts gX3_type_X3_codeOf rfl rfl rfl (by decide +kernel) ⟨Nat.le_of_ble_eq_true rfl, Nat.le_of_ble_eq_true rfl⟩) rfl hl.1 rfl (Nat.le_of_ble_eq_true rfl) dX3_type_23 ⟨Nat.le_of_ble_eq_true rfl, Nat.le_of_ble_eq_true rfl⟩ (m_deti (fun H locs hI => ?_))
    have hcdj := cd_lt j (by omega)
    refine m_callSi (As := [.int (nI (cd j))]) (rest := []) ⟨hx, hb, hml, hown, hts⟩ hE hI (c_X3_dependsOnShift k l ad N g _ (cd j) (by omega)) (va_cwS 1 hts gX3_type_X3_dependsOnShift rfl rfl rfl (by decide +kernel) ⟨Nat.le_of_ble_eq_true rfl, Nat.le_of_ble_eq_true rfl⟩) rfl hl.1 rfl (Nat.le_of_ble_eq_true rfl) dX3_type_26 ⟨Nat.le_of_ble_eq_true rfl, Nat.le_of_ble_eq_true rfl⟩ (m_deti (fun H locs hI => ?_))
    refine m_zeqB (tgt := 44) hx hb dX3_type_29 (by decide) (fun c_29 => ?_) (fun c_29 => ?_)
    · have htys : tyS uns T n j = false := by unfold tyS; rw [c_29] <;> rfl
      have htyn : tyN uns T n j = 1 := by unfold tyN; rw [htys] <;> rfl
      refine lv_iconst (v := nI 0) hx hb dX3_type_44 (by decide) ?_
      refine lv_istore_n (lv' := [(3, .int (nI 0)), (2, .int (bI (decide (26 < j) && decide (j < 53)))), (0, .ref (ad 0)), (1, .int (nI j))]) hx hb dX3_type_45 rfl hl (by decide) rfl (fun ls hl => ?_)
      refine lv_iload_n hx hb dX3_type_46 rfl (lv_at hl 0 rfl) ?_
      refine m_zeqN (tgt := 54) hx hb (by omega) dX3_type_47 (by decide) (fun c_47 => ?_) (fun c => absurd c (by decide))
      refine lv_iconst (v := nI 1) hx hb dX3_type_54 (by decide) ?_
      refine lv_istore (lv' := [(4, .int (nI 1)), (3, .int (nI 0)), (2, .int (bI (decide (26 < j) && decide (j < 53)))), (0, .ref (ad 0)), (1, .int (nI j))]) hx hb dX3_type_55 hl (by decide) rfl (fun ls hl => ?_)
      refine lv_aload_n hx hb dX3_type_57 rfl (lv_at hl 3 rfl) ?_
      refine m_get (ci := 3) (C := RX3) (T := TX3) (N' := 10) hx hb hts (by decide +kernel) hown hE hI 0 (by omega) h0 rfl 2 (by decide) (hts (.fieldLink RX3 28 "TapePrinter" "strip" "LTapePrinter$Row;") (by decide +kernel)) rfl dX3_type_58 ?_
      refine m_callVi (As := []) (rest := []) ⟨hx, hb, hml, hown, hts⟩ hE hI (c_X0_room k l ad N g _ 48 120 n (fun j => nI (T j))  (by omega) (by omega) (by omega) ⟨h48, h49⟩) (cwV 0 hts gX3_type_X0_room rfl rfl rfl (by decide +kernel) ⟨Nat.le_of_ble_eq_true rfl, Nat.le_of_ble_eq_true rfl⟩) (i := 48) (by omega) h48 rfl rfl hl.1 rfl (Nat.le_of_ble_eq_true rfl) dX3_type_61 ⟨Nat.le_of_ble_eq_true rfl, Nat.le_of_ble_eq_true rfl⟩ (m_deti (fun H locs hI => ?_))
      refine lv_iload hx hb dX3_type_64 (lv_at hl 0 rfl) ?_
      refine m_cgeN (tgt := 79) hx hb (by omega) (by omega) dX3_type_66 (by decide) (fun c_66 => ?_) (fun c_66 => ?_)
      · refine lv_iload_n hx hb dX3_type_79 rfl (lv_at hl 1 rfl) ?_
        refine m_zeqN (tgt := 102) hx hb (by omega) dX3_type_80 (by decide) (fun c_80 => ?_) (fun c => absurd c (by decide))
        refine lv_aload_n hx hb dX3_type_102 rfl (lv_at hl 3 rfl) ?_
        refine m_get (ci := 3) (C := RX3) (T := TX3) (N' := 10) hx hb hts (by decide +kernel) hown hE hI 0 (by omega) h0 rfl 2 (by decide) (hts (.fieldLink RX3 28 "TapePrinter" "strip" "LTapePrinter$Row;") (by decide +kernel)) rfl dX3_type_103 ?_
        refine lv_iload_n hx hb dX3_type_106 rfl (lv_at hl 4 rfl) ?_
        refine m_callSi (As := [.int (nI j)]) (rest := [.ref (ad 48)]) ⟨hx, hb, hml, hown, hts⟩ hE hI (c_X3_codeOf k l ad N g _ j (by omega)) (va_cwS 1 hts gX3_type_X3_codeOf rfl rfl rfl (by decide +kernel) ⟨Nat.le_of_ble_eq_true rfl, Nat.le_of_ble_eq_true rfl⟩) rfl hl.1 rfl (Nat.le_of_ble_eq_true rfl) dX3_type_107 ⟨Nat.le_of_ble_eq_true rfl, Nat.le_of_ble_eq_true rfl⟩ (m_deti (fun H locs hI => ?_))
        refine m_callVi (As := [.int (nI (cd j))]) (rest := []) ⟨hx, hb, hml, hown, hts⟩ hE hI (c_X0_add_in k l ad N g _ 48 120 n (fun j => nI (T j)) (nI (cd j)) (by omega) (by omega) (by omega) ⟨h48, h49⟩ (by omega)) (cwV 1 hts gX3_type_X0_add rfl rfl rfl (by decide +kernel) ⟨Nat.le_of_ble_eq_true rfl, Nat.le_of_ble_eq_true rfl⟩) (i := 48) (by omega) h48 rfl rfl hl.1 rfl (Nat.le_of_ble_eq_true rfl) dX3_type_110 ⟨Nat.le_of_ble_eq_true rfl, Nat.le_of_ble_eq_true rfl⟩ (m_deti (fun H locs hI => ?_))
        obtain ⟨g1, hg1⟩ : ∃ zz, zz = va_up (va_up g 49 (.inl (k.2.1.1, 120, .inl (upd (fun j => nI (T j)) n (nI (cd j)))))) 48 (.inr (0, [.ref (ad 49), .int (nI (n + 1))])) := ⟨_, rfl⟩
        replace hI : mI k ad N g1 (mA ad N s.heap.size) s H locs := by rw [hg1]; exact hI
        have m_1 : g1 0 = .inr (3, [.ref (ad 1), .ref (ad 6), .ref (ad 48), .int (nI rd), .int (bI fig), .int (bI uns), .int (nI came), .int mis, .int lost, .int bel]) := by rw [hg1, va_up_ne _ _ (by omega), va_up_ne _ _ (by omega)]; exact h0
        have m_2 : g1 1 = .inr (2, [.ref (ad 2), .ref (ad 4), .int (nI play)]) := by rw [hg1, va_up_ne _ _ (by omega), va_up_ne _ _ (by omega)]; exact h1
        have m_3 : g1 48 = .inr (0, [.ref (ad 49), .int (nI (n + 1))]) := by rw [hg1, va_up_self]
        have m_4 : g1 49 = .inl (k.2.1.1, 120, .inl (upd (fun j => nI (T j)) n (nI (cd j)))) := by rw [hg1, va_up_ne _ _ (by omega), va_up_self]
        have m_5 : g1 6 = .inr (1, [.ref (ad 7), .int (nI fi), .int (nI u)]) := by rw [hg1, va_up_ne _ _ (by omega), va_up_ne _ _ (by omega)]; exact h6
        refine lv_pop hx hb dX3_type_113 rfl ?_
        refine lv_iload hx hb dX3_type_114 (lv_at hl 0 rfl) ?_
        have hk9 : ∀ i, i < 48 ∨ 50 ≤ i → g1 i = g i := fun i hi => by rw [hg1, va_up_ne _ _ (by omega), va_up_ne _ _ (by omega)]
        have htyt : tyT uns T n j = va_up T n (cd j) := by unfold tyT; rw [htys] <;> rfl
        have hT9 : g1 49 = .inl (k.2.1.1, 120, .inl (fun i => nI (tyT uns T n j i))) := by rw [m_4, htyt, upd_nI]
        refine vx_ret ?_
        refine W.widen (k := 1) (n := 6) (by omega) (by omega) ?_
        exact m_iret hx hb hr hlocks hI (⟨c_4, by rw [htnj, htyn]; omega, by rw [htnj, htyn], by rw [htnj, htyn]; exact ⟨m_1, hWi.kept (fun i h1 h2 => hk9 i (by omega)), hSh.kept (fun i h1 h2 => hk9 i (by omega)), ⟨m_3, hT9⟩⟩, fun i hi => hk9 i (by omega)⟩) dX3_type_116
      · exact m_throwS hx hb hst hown (cls := "java/lang/IllegalStateException") (ik := 99) (is := 120) (ic := 103) x_fit99 (hts (.classLink RX3 99 "java/lang/IllegalStateException") (by decide +kernel)) (hts (.initialized "java/lang/IllegalStateException") (by decide +kernel)) (x_hat99 hE.1.2.2.2.2.2 (fun w h => hts w (List.mem_cons_of_mem _ (List.mem_append_right _ h)))) x_good99 (text := "the tape has no room") (by decide) hE hI (by rw [hml]; exact hl.1) dX3_type_69 dX3_type_72 dX3_type_73 dX3_type_75 dX3_type_78 htab hlocks (by decide) (Nat.le_of_ble_eq_true rfl) (Or.inr ⟨rfl, c_4, by rw [htnj, htyn]; omega⟩)
    · refine lv_iload_n hx hb dX3_type_32 rfl (lv_at hl 0 rfl) ?_
      refine lv_aload_n hx hb dX3_type_33 rfl (lv_at hl 1 rfl) ?_
      refine m_callVi (As := []) (rest := [.int (bI (decide (26 < j) && decide (j < 53)))]) ⟨hx, hb, hml, hown, hts⟩ hE hI (c_X3_figuresAtEnd k l ad N g _ rd fig uns came mis lost bel n T  (by omega) h0 (by omega) hT ⟨h48, h49⟩ ) (cwV 0 hts gX3_type_X3_figuresAtEnd rfl rfl rfl (by decide +kernel) ⟨Nat.le_of_ble_eq_true rfl, Nat.le_of_ble_eq_true rfl⟩) (i := 0) (by omega) h0 rfl rfl hl.1 rfl (Nat.le_of_ble_eq_true rfl) dX3_type_34 ⟨Nat.le_of_ble_eq_true rfl, Nat.le_of_ble_eq_true rfl⟩ (m_deti (fun H locs hI => ?_))
      refine m_ceqB (tgt := 44) hx hb dX3_type_37 (by decide) (fun c_37 => ?_) (fun c_37 => ?_)
      · have htys : tyS uns T n j = false := by unfold tyS; rw [c_29, c_37]; exact bne_self_eq_false _
        have htyn : tyN uns T n j = 1 := by unfold tyN; rw [htys] <;> rfl
        refine lv_iconst (v := nI 0) hx hb dX3_type_44 (by decide) ?_
        refine lv_istore_n (lv' := [(3, .int (nI 0)), (2, .int (bI (decide (26 < j) && decide (j < 53)))), (0, .ref (ad 0)), (1, .int (nI j))]) hx hb dX3_type_45 rfl hl (by decide) rfl (fun ls hl => ?_)
        refine lv_iload_n hx hb dX3_type_46 rfl (lv_at hl 0 rfl) ?_
        refine m_zeqN (tgt := 54) hx hb (by omega) dX3_type_47 (by decide) (fun c_47 => ?_) (fun c => absurd c (by decide))
        refine lv_iconst (v := nI 1) hx hb dX3_type_54 (by decide) ?_
        refine lv_istore (lv' := [(4, .int (nI 1)), (3, .int (nI 0)), (2, .int (bI (decide (26 < j) && decide (j < 53)))), (0, .ref (ad 0)), (1, .int (nI j))]) hx hb dX3_type_55 hl (by decide) rfl (fun ls hl => ?_)
        refine lv_aload_n hx hb dX3_type_57 rfl (lv_at hl 3 rfl) ?_
        refine m_get (ci := 3) (C := RX3) (T := TX3) (N' := 10) hx hb hts (by decide +kernel) hown hE hI 0 (by omega) h0 rfl 2 (by decide) (hts (.fieldLink RX3 28 "TapePrinter" "strip" "LTapePrinter$Row;") (by decide +kernel)) rfl dX3_type_58 ?_
        refine m_callVi (As := []) (rest := []) ⟨hx, hb, hml, hown, hts⟩ hE hI (c_X0_room k l ad N g _ 48 120 n (fun j => nI (T j))  (by omega) (by omega) (by omega) ⟨h48, h49⟩) (cwV 0 hts gX3_type_X0_room rfl rfl rfl (by decide +kernel) ⟨Nat.le_of_ble_eq_true rfl, Nat.le_of_ble_eq_true rfl⟩) (i := 48) (by omega) h48 rfl rfl hl.1 rfl (Nat.le_of_ble_eq_true rfl) dX3_type_61 ⟨Nat.le_of_ble_eq_true rfl, Nat.le_of_ble_eq_true rfl⟩ (m_deti (fun H locs hI => ?_))
        refine lv_iload hx hb dX3_type_64 (lv_at hl 0 rfl) ?_
        refine m_cgeN (tgt := 79) hx hb (by omega) (by omega) dX3_type_66 (by decide) (fun c_66 => ?_) (fun c_66 => ?_)
        · refine lv_iload_n hx hb dX3_type_79 rfl (lv_at hl 1 rfl) ?_
          refine m_zeqN (tgt := 102) hx hb (by omega) dX3_type_80 (by decide) (fun c_80 => ?_) (fun c => absurd c (by decide))
          refine lv_aload_n hx hb dX3_type_102 rfl (lv_at hl 3 rfl) ?_
          refine m_get (ci := 3) (C := RX3) (T := TX3) (N' := 10) hx hb hts (by decide +kernel) hown hE hI 0 (by omega) h0 rfl 2 (by decide) (hts (.fieldLink RX3 28 "TapePrinter" "strip" "LTapePrinter$Row;") (by decide +kernel)) rfl dX3_type_103 ?_
          refine lv_iload_n hx hb dX3_type_106 rfl (lv_at hl 4 rfl) ?_
          refine m_callSi (As := [.int (nI j)]) (rest := [.ref (ad 48)]) ⟨hx, hb, hml, hown, hts⟩ hE hI (c_X3_codeOf k l ad N g _ j (by omega)) (va_cwS 1 hts gX3_type_X3_codeOf rfl rfl rfl (by decide +kernel) ⟨Nat.le_of_ble_eq_true rfl, Nat.le_of_ble_eq_true rfl⟩) rfl hl.1 rfl (Nat.le_of_ble_eq_true rfl) dX3_type_107 ⟨Nat.le_of_ble_eq_true rfl, Nat.le_of_ble_eq_true rfl⟩ (m_deti (fun H locs hI => ?_))
          refine m_callVi (As := [.int (nI (cd j))]) (rest := []) ⟨hx, hb, hml, hown, hts⟩ hE hI (c_X0_add_in k l ad N g _ 48 120 n (fun j => nI (T j)) (nI (cd j)) (by omega) (by omega) (by omega) ⟨h48, h49⟩ (by omega)) (cwV 1 hts gX3_type_X0_add rfl rfl rfl (by decide +kernel) ⟨Nat.le_of_ble_eq_true rfl, Nat.le_of_ble_eq_true rfl⟩) (i := 48) (by omega) h48 rfl rfl hl.1 rfl (Nat.le_of_ble_eq_true rfl) dX3_type_110 ⟨Nat.le_of_ble_eq_true rfl, Nat.le_of_ble_eq_true rfl⟩ (m_deti (fun H locs hI => ?_))
          obtain ⟨g2, hg2⟩ : ∃ zz, zz = va_up (va_up g 49 (.inl (k.2.1.1, 120, .inl (upd (fun j => nI (T j)) n (nI (cd j)))))) 48 (.inr (0, [.ref (ad 49), .int (nI (n + 1))])) := ⟨_, rfl⟩
          replace hI : mI k ad N g2 (mA ad N s.heap.size) s H locs := by rw [hg2]; exact hI
          have m_6 : g2 0 = .inr (3, [.ref (ad 1), .ref (ad 6), .ref (ad 48), .int (nI rd), .int (bI fig), .int (bI uns), .int (nI came), .int mis, .int lost, .int bel]) := by rw [hg2, va_up_ne _ _ (by omega), va_up_ne _ _ (by omega)]; exact h0
          have m_7 : g2 1 = .inr (2, [.ref (ad 2), .ref (ad 4), .int (nI play)]) := by rw [hg2, va_up_ne _ _ (by omega), va_up_ne _ _ (by omega)]; exact h1
          have m_8 : g2 48 = .inr (0, [.ref (ad 49), .int (nI (n + 1))]) := by rw [hg2, va_up_self]
          have m_9 : g2 49 = .inl (k.2.1.1, 120, .inl (upd (fun j => nI (T j)) n (nI (cd j)))) := by rw [hg2, va_up_ne _ _ (by omega), va_up_self]
          have m_10 : g2 6 = .inr (1, [.ref (ad 7), .int (nI fi), .int (nI u)]) := by rw [hg2, va_up_ne _ _ (by omega), va_up_ne _ _ (by omega)]; exact h6
          refine lv_pop hx hb dX3_type_113 rfl ?_
          refine lv_iload hx hb dX3_type_114 (lv_at hl 0 rfl) ?_
          have hk9 : ∀ i, i < 48 ∨ 50 ≤ i → g2 i = g i := fun i hi => by rw [hg2, va_up_ne _ _ (by omega), va_up_ne _ _ (by omega)]
          have htyt : tyT uns T n j = va_up T n (cd j) := by unfold tyT; rw [htys] <;> rfl
          have hT9 : g2 49 = .inl (k.2.1.1, 120, .inl (fun i => nI (tyT uns T n j i))) := by rw [m_9, htyt, upd_nI]
          refine vx_ret ?_
          refine W.widen (k := 1) (n := 6) (by omega) (by omega) ?_
          exact m_iret hx hb hr hlocks hI (⟨c_4, by rw [htnj, htyn]; omega, by rw [htnj, htyn], by rw [htnj, htyn]; exact ⟨m_6, hWi.kept (fun i h1 h2 => hk9 i (by omega)), hSh.kept (fun i h1 h2 => hk9 i (by omega)), ⟨m_8, hT9⟩⟩, fun i hi => hk9 i (by omega)⟩) dX3_type_116
        · exact m_throwS hx hb hst hown (cls := "java/lang/IllegalStateException") (ik := 99) (is := 120) (ic := 103) x_fit99 (hts (.classLink RX3 99 "java/lang/IllegalStateException") (by decide +kernel)) (hts (.initialized "java/lang/IllegalStateException") (by decide +kernel)) (x_hat99 hE.1.2.2.2.2.2 (fun w h => hts w (List.mem_cons_of_mem _ (List.mem_append_right _ h)))) x_good99 (text := "the tape has no room") (by decide) hE hI (by rw [hml]; exact hl.1) dX3_type_69 dX3_type_72 dX3_type_73 dX3_type_75 dX3_type_78 htab hlocks (by decide) (Nat.le_of_ble_eq_true rfl) (Or.inr ⟨rfl, c_4, by rw [htnj, htyn]; omega⟩)
      · have htys : tyS uns T n j = true := by unfold tyS; rw [c_29]; exact bne_iff_ne.mpr c_37
        have htyn : tyN uns T n j = 2 := by unfold tyN; rw [htys] <;> rfl
        refine lv_iconst (v := nI 1) hx hb dX3_type_40 (by decide) ?_
        refine lv_goto (tgt := 45) hx hb dX3_type_41 (by decide) ?_
        refine lv_istore_n (lv' := [(3, .int (nI 1)), (2, .int (bI (decide (26 < j) && decide (j < 53)))), (0, .ref (ad 0)), (1, .int (nI j))]) hx hb dX3_type_45 rfl hl (by decide) rfl (fun ls hl => ?_)
        refine lv_iload_n hx hb dX3_type_46 rfl (lv_at hl 0 rfl) ?_
        refine m_zeqN (tgt := 54) hx hb (by omega) dX3_type_47 (by decide) (fun c => absurd c (by decide)) (fun c_47 => ?_)
        refine lv_iconst (v := nI 2) hx hb dX3_type_50 (by decide) ?_
        refine lv_goto (tgt := 55) hx hb dX3_type_51 (by decide) ?_
        refine lv_istore (lv' := [(4, .int (nI 2)), (3, .int (nI 1)), (2, .int (bI (decide (26 < j) && decide (j < 53)))), (0, .ref (ad 0)), (1, .int (nI j))]) hx hb dX3_type_55 hl (by decide) rfl (fun ls hl => ?_)
        refine lv_aload_n hx hb dX3_type_57 rfl (lv_at hl 3 rfl) ?_
        refine m_get (ci := 3) (C := RX3) (T := TX3) (N' := 10) hx hb hts (by decide +kernel) hown hE hI 0 (by omega) h0 rfl 2 (by decide) (hts (.fieldLink RX3 28 "TapePrinter" "strip" "LTapePrinter$Row;") (by decide +kernel)) rfl dX3_type_58 ?_
        refine m_callVi (As := []) (rest := []) ⟨hx, hb, hml, hown, hts⟩ hE hI (c_X0_room k l ad N g _ 48 120 n (fun j => nI (T j))  (by omega) (by omega) (by omega) ⟨h48, h49⟩) (cwV 0 hts gX3_type_X0_room rfl rfl rfl (by decide +kernel) ⟨Nat.le_of_ble_eq_true rfl, Nat.le_of_ble_eq_true rfl⟩) (i := 48) (by omega) h48 rfl rfl hl.1 rfl (Nat.le_of_ble_eq_true rfl) dX3_type_61 ⟨Nat.le_of_ble_eq_true rfl, Nat.le_of_ble_eq_true rfl⟩ (m_deti (fun H locs hI => ?_))
        refine lv_iload hx hb dX3_type_64 (lv_at hl 0 rfl) ?_
        refine m_cgeN (tgt := 79) hx hb (by omega) (by omega) dX3_type_66 (by decide) (fun c_66 => ?_) (fun c_66 => ?_)
        · refine lv_iload_n hx hb dX3_type_79 rfl (lv_at hl 1 rfl) ?_
          refine m_zeqN (tgt := 102) hx hb (by omega) dX3_type_80 (by decide) (fun c => absurd c (by decide)) (fun c_80 => ?_)
          refine lv_aload_n hx hb dX3_type_83 rfl (lv_at hl 3 rfl) ?_
          refine m_get (ci := 3) (C := RX3) (T := TX3) (N' := 10) hx hb hts (by decide +kernel) hown hE hI 0 (by omega) h0 rfl 2 (by decide) (hts (.fieldLink RX3 28 "TapePrinter" "strip" "LTapePrinter$Row;") (by decide +kernel)) rfl dX3_type_84 ?_
          refine lv_iload_n hx hb dX3_type_87 rfl (lv_at hl 2 rfl) ?_
          refine m_zeqB (tgt := 96) hx hb dX3_type_88 (by decide) (fun c_88 => ?_) (fun c_88 => ?_)
          · refine lv_bipush (v := nI 31) hx hb dX3_type_96 (by decide) ?_
            refine m_callVi (As := [.int (nI 31)]) (rest := []) ⟨hx, hb, hml, hown, hts⟩ hE hI (c_X0_add_in k l ad N g _ 48 120 n (fun j => nI (T j)) (nI 31) (by omega) (by omega) (by omega) ⟨h48, h49⟩ (by omega)) (cwV 1 hts gX3_type_X0_add rfl rfl rfl (by decide +kernel) ⟨Nat.le_of_ble_eq_true rfl, Nat.le_of_ble_eq_true rfl⟩) (i := 48) (by omega) h48 rfl rfl hl.1 rfl (Nat.le_of_ble_eq_true rfl) dX3_type_98 ⟨Nat.le_of_ble_eq_true rfl, Nat.le_of_ble_eq_true rfl⟩ (m_deti (fun H locs hI => ?_))
            obtain ⟨g3, hg3⟩ : ∃ zz, zz = va_up (va_up g 49 (.inl (k.2.1.1, 120, .inl (upd (fun j => nI (T j)) n (nI 31))))) 48 (.inr (0, [.ref (ad 49), .int (nI (n + 1))])) := ⟨_, rfl⟩
            replace hI : mI k ad N g3 (mA ad N s.heap.size) s H locs := by rw [hg3]; exact hI
            have m_11 : g3 0 = .inr (3, [.ref (ad 1), .ref (ad 6), .ref (ad 48), .int (nI rd), .int (bI fig), .int (bI uns), .int (nI came), .int mis, .int lost, .int bel]) := by rw [hg3, va_up_ne _ _ (by omega), va_up_ne _ _ (by omega)]; exact h0
            have m_12 : g3 1 = .inr (2, [.ref (ad 2), .ref (ad 4), .int (nI play)]) := by rw [hg3, va_up_ne _ _ (by omega), va_up_ne _ _ (by omega)]; exact h1
            have m_13 : g3 48 = .inr (0, [.ref (ad 49), .int (nI (n + 1))]) := by rw [hg3, va_up_self]
            have m_14 : g3 49 = .inl (k.2.1.1, 120, .inl (upd (fun j => nI (T j)) n (nI 31))) := by rw [hg3, va_up_ne _ _ (by omega), va_up_self]
            have m_15 : g3 6 = .inr (1, [.ref (ad 7), .int (nI fi), .int (nI u)]) := by rw [hg3, va_up_ne _ _ (by omega), va_up_ne _ _ (by omega)]; exact h6
            refine lv_pop hx hb dX3_type_101 rfl ?_
            refine lv_aload_n hx hb dX3_type_102 rfl (lv_at hl 3 rfl) ?_
            refine m_get (ci := 3) (C := RX3) (T := TX3) (N' := 10) hx hb hts (by decide +kernel) hown hE hI 0 (by omega) m_11 rfl 2 (by decide) (hts (.fieldLink RX3 28 "TapePrinter" "strip" "LTapePrinter$Row;") (by decide +kernel)) rfl dX3_type_103 ?_
            refine lv_iload_n hx hb dX3_type_106 rfl (lv_at hl 4 rfl) ?_
            refine m_callSi (As := [.int (nI j)]) (rest := [.ref (ad 48)]) ⟨hx, hb, hml, hown, hts⟩ hE hI (c_X3_codeOf k l ad N g3 _ j (by omega)) (va_cwS 1 hts gX3_type_X3_codeOf rfl rfl rfl (by decide +kernel) ⟨Nat.le_of_ble_eq_true rfl, Nat.le_of_ble_eq_true rfl⟩) rfl hl.1 rfl (Nat.le_of_ble_eq_true rfl) dX3_type_107 ⟨Nat.le_of_ble_eq_true rfl, Nat.le_of_ble_eq_true rfl⟩ (m_deti (fun H locs hI => ?_))
            refine m_callVi (As := [.int (nI (cd j))]) (rest := []) ⟨hx, hb, hml, hown, hts⟩ hE hI (c_X0_add_in k l ad N g3 _ 48 120 (n + 1) (upd (fun j => nI (T j)) n (nI 31)) (nI (cd j)) (by omega) (by omega) (by omega) ⟨m_13, m_14⟩ (by omega)) (cwV 1 hts gX3_type_X0_add rfl rfl rfl (by decide +kernel) ⟨Nat.le_of_ble_eq_true rfl, Nat.le_of_ble_eq_true rfl⟩) (i := 48) (by omega) m_13 rfl rfl hl.1 rfl (Nat.le_of_ble_eq_true rfl) dX3_type_110 ⟨Nat.le_of_ble_eq_true rfl, Nat.le_of_ble_eq_true rfl⟩ (m_deti (fun H locs hI => ?_))
            obtain ⟨g4, hg4⟩ : ∃ zz, zz = va_up (va_up g3 49 (.inl (k.2.1.1, 120, .inl (upd (upd (fun j => nI (T j)) n (nI 31)) (n + 1) (nI (cd j)))))) 48 (.inr (0, [.ref (ad 49), .int (nI ((n + 1) + 1))])) := ⟨_, rfl⟩
            replace hI : mI k ad N g4 (mA ad N s.heap.size) s H locs := by rw [hg4]; exact hI
            have m_16 : g4 0 = .inr (3, [.ref (ad 1), .ref (ad 6), .ref (ad 48), .int (nI rd), .int (bI fig), .int (bI uns), .int (nI came), .int mis, .int lost, .int bel]) := by rw [hg4, va_up_ne _ _ (by omega), va_up_ne _ _ (by omega)]; exact m_11
            have m_17 : g4 1 = .inr (2, [.ref (ad 2), .ref (ad 4), .int (nI play)]) := by rw [hg4, va_up_ne _ _ (by omega), va_up_ne _ _ (by omega)]; exact m_12
            have m_18 : g4 48 = .inr (0, [.ref (ad 49), .int (nI ((n + 1) + 1))]) := by rw [hg4, va_up_self]
            have m_19 : g4 49 = .inl (k.2.1.1, 120, .inl (upd (upd (fun j => nI (T j)) n (nI 31)) (n + 1) (nI (cd j)))) := by rw [hg4, va_up_ne _ _ (by omega), va_up_self]
            have m_20 : g4 6 = .inr (1, [.ref (ad 7), .int (nI fi), .int (nI u)]) := by rw [hg4, va_up_ne _ _ (by omega), va_up_ne _ _ (by omega)]; exact m_15
            refine lv_pop hx hb dX3_type_113 rfl ?_
            refine lv_iload hx hb dX3_type_114 (lv_at hl 0 rfl) ?_
            have hk9 : ∀ i, i < 48 ∨ 50 ≤ i → g4 i = g i := fun i hi => by rw [hg4, va_up_ne _ _ (by omega), va_up_ne _ _ (by omega), hg3, va_up_ne _ _ (by omega), va_up_ne _ _ (by omega)]
            have htyt : tyT uns T n j = va_up (va_up T n 31) (n + 1) (cd j) := by unfold tyT; rw [htys]; simp only [if_true]; rw [c_88] <;> rfl
            have hT9 : g4 49 = .inl (k.2.1.1, 120, .inl (fun i => nI (tyT uns T n j i))) := by rw [m_19, htyt, upd_nI, upd_nI]
            refine vx_ret ?_
            refine W.widen (k := 1) (n := 6) (by omega) (by omega) ?_
            exact m_iret hx hb hr hlocks hI (⟨c_4, by rw [htnj, htyn]; omega, by rw [htnj, htyn], by rw [htnj, htyn]; exact ⟨m_16, hWi.kept (fun i h1 h2 => hk9 i (by omega)), hSh.kept (fun i h1 h2 => hk9 i (by omega)), ⟨m_18, hT9⟩⟩, fun i hi => hk9 i (by omega)⟩) dX3_type_116
          · refine lv_bipush (v := nI 27) hx hb dX3_type_91 (by decide) ?_
            refine lv_goto (tgt := 98) hx hb dX3_type_93 (by decide) ?_
            refine m_callVi (As := [.int (nI 27)]) (rest := []) ⟨hx, hb, hml, hown, hts⟩ hE hI (c_X0_add_in k l ad N g _ 48 120 n (fun j => nI (T j)) (nI 27) (by omega) (by omega) (by omega) ⟨h48, h49⟩ (by omega)) (cwV 1 hts gX3_type_X0_add rfl rfl rfl (by decide +kernel) ⟨Nat.le_of_ble_eq_true rfl, Nat.le_of_ble_eq_true rfl⟩) (i := 48) (by omega) h48 rfl rfl hl.1 rfl (Nat.le_of_ble_eq_true rfl) dX3_type_98 ⟨Nat.le_of_ble_eq_true rfl, Nat.le_of_ble_eq_true rfl⟩ (m_deti (fun H locs hI => ?_))
            obtain ⟨g5, hg5⟩ : ∃ zz, zz = va_up (va_up g 49 (.inl (k.2.1.1, 120, .inl (upd (fun j => nI (T j)) n (nI 27))))) 48 (.inr (0, [.ref (ad 49), .int (nI (n + 1))])) := ⟨_, rfl⟩
            replace hI : mI k ad N g5 (mA ad N s.heap.size) s H locs := by rw [hg5]; exact hI
            have m_21 : g5 0 = .inr (3, [.ref (ad 1), .ref (ad 6), .ref (ad 48), .int (nI rd), .int (bI fig), .int (bI uns), .int (nI came), .int mis, .int lost, .int bel]) := by rw [hg5, va_up_ne _ _ (by omega), va_up_ne _ _ (by omega)]; exact h0
            have m_22 : g5 1 = .inr (2, [.ref (ad 2), .ref (ad 4), .int (nI play)]) := by rw [hg5, va_up_ne _ _ (by omega), va_up_ne _ _ (by omega)]; exact h1
            have m_23 : g5 48 = .inr (0, [.ref (ad 49), .int (nI (n + 1))]) := by rw [hg5, va_up_self]
            have m_24 : g5 49 = .inl (k.2.1.1, 120, .inl (upd (fun j => nI (T j)) n (nI 27))) := by rw [hg5, va_up_ne _ _ (by omega), va_up_self]
            have m_25 : g5 6 = .inr (1, [.ref (ad 7), .int (nI fi), .int (nI u)]) := by rw [hg5, va_up_ne _ _ (by omega), va_up_ne _ _ (by omega)]; exact h6
            refine lv_pop hx hb dX3_type_101 rfl ?_
            refine lv_aload_n hx hb dX3_type_102 rfl (lv_at hl 3 rfl) ?_
            refine m_get (ci := 3) (C := RX3) (T := TX3) (N' := 10) hx hb hts (by decide +kernel) hown hE hI 0 (by omega) m_21 rfl 2 (by decide) (hts (.fieldLink RX3 28 "TapePrinter" "strip" "LTapePrinter$Row;") (by decide +kernel)) rfl dX3_type_103 ?_
            refine lv_iload_n hx hb dX3_type_106 rfl (lv_at hl 4 rfl) ?_
            refine m_callSi (As := [.int (nI j)]) (rest := [.ref (ad 48)]) ⟨hx, hb, hml, hown, hts⟩ hE hI (c_X3_codeOf k l ad N g5 _ j (by omega)) (va_cwS 1 hts gX3_type_X3_codeOf rfl rfl rfl (by decide +kernel) ⟨Nat.le_of_ble_eq_true rfl, Nat.le_of_ble_eq_true rfl⟩) rfl hl.1 rfl (Nat.le_of_ble_eq_true rfl) dX3_type_107 ⟨Nat.le_of_ble_eq_true rfl, Nat.le_of_ble_eq_true rfl⟩ (m_deti (fun H locs hI => ?_))
            refine m_callVi (As := [.int (nI (cd j))]) (rest := []) ⟨hx, hb, hml, hown, hts⟩ hE hI (c_X0_add_in k l ad N g5 _ 48 120 (n + 1) (upd (fun j => nI (T j)) n (nI 27)) (nI (cd j)) (by omega) (by omega) (by omega) ⟨m_23, m_24⟩ (by omega)) (cwV 1 hts gX3_type_X0_add rfl rfl rfl (by decide +kernel) ⟨Nat.le_of_ble_eq_true rfl, Nat.le_of_ble_eq_true rfl⟩) (i := 48) (by omega) m_23 rfl rfl hl.1 rfl (Nat.le_of_ble_eq_true rfl) dX3_type_110 ⟨Nat.le_of_ble_eq_true rfl, Nat.le_of_ble_eq_true rfl⟩ (m_deti (fun H locs hI => ?_))
            obtain ⟨g6, hg6⟩ : ∃ zz, zz = va_up (va_up g5 49 (.inl (k.2.1.1, 120, .inl (upd (upd (fun j => nI (T j)) n (nI 27)) (n + 1) (nI (cd j)))))) 48 (.inr (0, [.ref (ad 49), .int (nI ((n + 1) + 1))])) := ⟨_, rfl⟩
            replace hI : mI k ad N g6 (mA ad N s.heap.size) s H locs := by rw [hg6]; exact hI
            have m_26 : g6 0 = .inr (3, [.ref (ad 1), .ref (ad 6), .ref (ad 48), .int (nI rd), .int (bI fig), .int (bI uns), .int (nI came), .int mis, .int lost, .int bel]) := by rw [hg6, va_up_ne _ _ (by omega), va_up_ne _ _ (by omega)]; exact m_21
            have m_27 : g6 1 = .inr (2, [.ref (ad 2), .ref (ad 4), .int (nI play)]) := by rw [hg6, va_up_ne _ _ (by omega), va_up_ne _ _ (by omega)]; exact m_22
            have m_28 : g6 48 = .inr (0, [.ref (ad 49), .int (nI ((n + 1) + 1))]) := by rw [hg6, va_up_self]
            have m_29 : g6 49 = .inl (k.2.1.1, 120, .inl (upd (upd (fun j => nI (T j)) n (nI 27)) (n + 1) (nI (cd j)))) := by rw [hg6, va_up_ne _ _ (by omega), va_up_self]
            have m_30 : g6 6 = .inr (1, [.ref (ad 7), .int (nI fi), .int (nI u)]) := by rw [hg6, va_up_ne _ _ (by omega), va_up_ne _ _ (by omega)]; exact m_25
            refine lv_pop hx hb dX3_type_113 rfl ?_
            refine lv_iload hx hb dX3_type_114 (lv_at hl 0 rfl) ?_
            have hk9 : ∀ i, i < 48 ∨ 50 ≤ i → g6 i = g i := fun i hi => by rw [hg6, va_up_ne _ _ (by omega), va_up_ne _ _ (by omega), hg5, va_up_ne _ _ (by omega), va_up_ne _ _ (by omega)]
            have htyt : tyT uns T n j = va_up (va_up T n 27) (n + 1) (cd j) := by unfold tyT; rw [htys]; simp only [if_true]; rw [c_88] <;> rfl
            have hT9 : g6 49 = .inl (k.2.1.1, 120, .inl (fun i => nI (tyT uns T n j i))) := by rw [m_29, htyt, upd_nI, upd_nI]
            refine vx_ret ?_
            refine W.widen (k := 1) (n := 6) (by omega) (by omega) ?_
            exact m_iret hx hb hr hlocks hI (⟨c_4, by rw [htnj, htyn]; omega, by rw [htnj, htyn], by rw [htnj, htyn]; exact ⟨m_26, hWi.kept (fun i h1 h2 => hk9 i (by omega)), hSh.kept (fun i h1 h2 => hk9 i (by omega)), ⟨m_28, hT9⟩⟩, fun i hi => hk9 i (by omega)⟩) dX3_type_116
        · exact m_throwS hx hb hst hown (cls := "java/lang/IllegalStateException") (ik := 99) (is := 120) (ic := 103) x_fit99 (hts (.classLink RX3 99 "java/lang/IllegalStateException") (by decide +kernel)) (hts (.initialized "java/lang/IllegalStateException") (by decide +kernel)) (x_hat99 hE.1.2.2.2.2.2 (fun w h => hts w (List.mem_cons_of_mem _ (List.mem_append_right _ h)))) x_good99 (text := "the tape has no room") (by decide) hE hI (by rw [hml]; exact hl.1) dX3_type_69 dX3_type_72 dX3_type_73 dX3_type_75 dX3_type_78 htab hlocks (by decide) (Nat.le_of_ble_eq_true rfl) (Or.inr ⟨rfl, c_4, by rw [htnj, htyn]; omega⟩)
  · exact m_throwS hx hb hst hown (cls := "java/lang/IndexOutOfBoundsException") (ik := 36) (is := 38) (ic := 40) x_fit36 (hts (.classLink RX3 36 "java/lang/IndexOutOfBoundsException") (by decide +kernel)) (hts (.initialized "java/lang/IndexOutOfBoundsException") (by decide +kernel)) (x_hat36 hE.1.2.2.2.2.2 (fun w h => hts w (List.mem_cons_of_mem _ (List.mem_append_left _ (List.mem_append_right _ h))))) x_good36 (text := "no such character") (by decide) hE hI (by rw [hml]; exact hl.1) dX3_type_7 dX3_type_10 dX3_type_11 dX3_type_13 dX3_type_16 htab hlocks (by decide) (Nat.le_of_ble_eq_true rfl) (Or.inl ⟨rfl, c_4⟩)
set_option maxHeartbeats 8000000 in
set_option maxRecDepth 100000 in
theorem c_X3_rub (k : mC) (l : Launch) (hst : l.stackTraces = false) (ad : Nat → Nat) (N : Nat) (g : Nat → va_E) (sz : Nat) (uns : Bool) (play rd n : Nat) (lat : Nat → Int32) (gar T : Nat → Nat) (came : Nat) (mis lost bel : Int32) (fig : Bool) (fi u : Nat) (z : Nat → Nat) (F : Nat → Nat → Nat) (r : Nat → Option Nat) (p0 : Int32) (hN : 50 ≤ N) (hW : CW play rd n lat gar T) (hwf : cWf (fi, u, z, F)) (hcame : came < 2000000000) (hC : CR k ad g uns play rd n lat gar T (came, mis, lost, bel, fig, fi, u, z, F) r)  : mXi k l yX3_rub wsX3_rub { frames := 6, cells := 1, slots := 6, locals := 82 } ad N g sz [.ref (ad 0), .int p0] (fun r1 g1 => inN p0 n = true ∧ r1 = nI (T (tn p0)) ∧ CR k ad g1 uns play rd n lat gar (va_up T (tn p0) 31) (came, mis, lost, bel, fig, fi, u, z, F) r ∧ ∀ i, 50 ≤ i → g1 i = g i) (fun E => E = "java/lang/IndexOutOfBoundsException" ∧ inN p0 n = false) := by
  refine mOfX (cc := cX3_rub) (maxL := 3) (ret := (some .int)) (by decide) rfl (Nat.le_of_ble_eq_true rfl) ?_
  intro p e s m below meth c hx hb hr hts hown hlocks hml htab hE hI ls hl
  have hl : lv_has ls 3 [(0, .ref (ad 0)), (1, .int p0)] := hl
  have h0 : g 0 = .inr (3, [.ref (ad 1), .ref (ad 6), .ref (ad 48), .int (nI rd), .int (bI fig), .int (bI uns), .int (nI came), .int mis, .int lost, .int bel]) := hC.1
  have hWi : CWi k ad g play lat gar := hC.2.1
  have hSh : CSh k ad g fi u z F r := hC.2.2.1
  have h48 : g 48 = .inr (0, [.ref (ad 49), .int (nI n)]) := hC.2.2.2.1
  have h49 : g 49 = .inl (k.2.1.1, 120, .inl (fun j => nI (T j))) := hC.2.2.2.2
  have hr48 : CRow k ad g 48 120 n (fun j => nI (T j)) := ⟨h48, h49⟩
  have h1 := hWi.1
  have h6 : g 6 = .inr (1, [.ref (ad 7), .int (nI fi), .int (nI u)]) := hSh.1
  obtain ⟨hplay, hrd, hn, hgar, hT, hlat⟩ := id hW
  have hfi : fi < 20 := hwf.1
  have hu0 : 0 < u := hwf.2.1
  have hu : u ≤ 20 := hwf.2.2
  refine lv_aload_n hx hb dX3_rub_0 rfl (lv_at hl 0 rfl) ?_
  refine m_get (ci := 3) (C := RX3) (T := TX3) (N' := 10) hx hb hts (by decide +kernel) hown hE hI 0 (by omega) h0 rfl 2 (by decide) (hts (.fieldLink RX3 28 "TapePrinter" "strip" "LTapePrinter$Row;") (by decide +kernel)) rfl dX3_rub_1 ?_
  refine lv_iload_n hx hb dX3_rub_4 rfl (lv_at hl 1 rfl) ?_
  refine m_callVi (As := [.int p0]) (rest := []) ⟨hx, hb, hml, hown, hts⟩ hE hI (c_X0_has k l ad N g _ 48 120 n (fun j => nI (T j)) p0 (by omega) (by omega) (by omega) ⟨h48, h49⟩) (cwV 1 hts gX3_rub_X0_has rfl rfl rfl (by decide +kernel) ⟨Nat.le_of_ble_eq_true rfl, Nat.le_of_ble_eq_true rfl⟩) (i := 48) (by omega) h48 rfl rfl hl.1 rfl (Nat.le_of_ble_eq_true rfl) dX3_rub_5 ⟨Nat.le_of_ble_eq_true rfl, Nat.le_of_ble_eq_true rfl⟩ (m_deti (fun H locs hI => ?_))
  refine m_zneB (tgt := 21) hx hb dX3_rub_8 (by decide) (fun c_8 => ?_) (fun c_8 => ?_)
  · obtain ⟨j, hj, rfl⟩ := inN_ex c_8 (by omega)
    have htnj := tn_nI (j := j) (by omega)
    have hl : lv_has ls 3 [(0, .ref (ad 0)), (1, .int (nI j))] := hl
    refine lv_aload_n hx hb dX3_rub_21 rfl (lv_at hl 0 rfl) ?_
    refine m_get (ci := 3) (C := RX3) (T := TX3) (N' := 10) hx hb hts (by decide +kernel) hown hE hI 0 (by omega) h0 rfl 2 (by decide) (hts (.fieldLink RX3 28 "TapePrinter" "strip" "LTapePrinter$Row;") (by decide +kernel)) rfl dX3_rub_22 ?_
    refine lv_iload_n hx hb dX3_rub_25 rfl (lv_at hl 1 rfl) ?_
    refine m_callVi (As := [.int (nI j)]) (rest := []) ⟨hx, hb, hml, hown, hts⟩ hE hI (c_X0_at k l ad N g _ 48 120 n (fun j => nI (T j)) j (by omega) (by omega) (by omega) ⟨h48, h49⟩ (by omega)) (cwV 1 hts gX3_rub_X0_at rfl rfl rfl (by decide +kernel) ⟨Nat.le_of_ble_eq_true rfl, Nat.le_of_ble_eq_true rfl⟩) (i := 48) (by omega) h48 rfl rfl hl.1 rfl (Nat.le_of_ble_eq_true rfl) dX3_rub_26 ⟨Nat.le_of_ble_eq_true rfl, Nat.le_of_ble_eq_true rfl⟩ (m_deti (fun H locs hI => ?_))
    refine m_top (show (fun j => nI (T j)) j = nI (T j) from rfl) ?_
    have ht_1 := hT j
    refine lv_istore_n (lv' := [(2, .int (nI (T j))), (0, .ref (ad 0)), (1, .int (nI j))]) hx hb dX3_rub_29 rfl hl (by decide) rfl (fun ls hl => ?_)
    refine lv_aload_n hx hb dX3_rub_30 rfl (lv_at hl 1 rfl) ?_
    refine m_get (ci := 3) (C := RX3) (T := TX3) (N' := 10) hx hb hts (by decide +kernel) hown hE hI 0 (by omega) h0 rfl 2 (by decide) (hts (.fieldLink RX3 28 "TapePrinter" "strip" "LTapePrinter$Row;") (by decide +kernel)) rfl dX3_rub_31 ?_
    refine lv_iload_n hx hb dX3_rub_34 rfl (lv_at hl 2 rfl) ?_
    refine lv_bipush (v := nI 31) hx hb dX3_rub_35 (by decide) ?_
    refine m_callVv (As := [.int (nI j), .int (nI 31)]) (rest := []) ⟨hx, hb, hml, hown, hts⟩ hE hI (c_X0_change k l ad N g _ 48 120 n (fun j => nI (T j)) j (nI 31) (by omega) (by omega) (by omega) ⟨h48, h49⟩ (by omega)) (cwV 2 hts gX3_rub_X0_change rfl rfl rfl (by decide +kernel) ⟨Nat.le_of_ble_eq_true rfl, Nat.le_of_ble_eq_true rfl⟩) (i := 48) (by omega) h48 rfl rfl hl.1 rfl (Nat.le_of_ble_eq_true rfl) dX3_rub_37 ⟨Nat.le_of_ble_eq_true rfl, Nat.le_of_ble_eq_true rfl⟩ (m_detv (fun H locs hI => ?_))
    obtain ⟨g1, hg1⟩ : ∃ zz, zz = va_up g 49 (.inl (k.2.1.1, 120, .inl (upd (fun j => nI (T j)) j (nI 31)))) := ⟨_, rfl⟩
    replace hI : mI k ad N g1 (mA ad N s.heap.size) s H locs := by rw [hg1]; exact hI
    have m_2 : g1 0 = .inr (3, [.ref (ad 1), .ref (ad 6), .ref (ad 48), .int (nI rd), .int (bI fig), .int (bI uns), .int (nI came), .int mis, .int lost, .int bel]) := by rw [hg1, va_up_ne _ _ (by omega)]; exact h0
    have m_3 : g1 1 = .inr (2, [.ref (ad 2), .ref (ad 4), .int (nI play)]) := by rw [hg1, va_up_ne _ _ (by omega)]; exact h1
    have m_4 : g1 48 = .inr (0, [.ref (ad 49), .int (nI n)]) := by rw [hg1, va_up_ne _ _ (by omega)]; exact h48
    have m_5 : g1 49 = .inl (k.2.1.1, 120, .inl (upd (fun j => nI (T j)) j (nI 31))) := by rw [hg1, va_up_self]
    have m_6 : g1 6 = .inr (1, [.ref (ad 7), .int (nI fi), .int (nI u)]) := by rw [hg1, va_up_ne _ _ (by omega)]; exact h6
    refine lv_iload_n hx hb dX3_rub_40 rfl (lv_at hl 0 rfl) ?_
    have hk9 : ∀ i, i ≠ 49 → g1 i = g i := fun i hi => by rw [hg1, va_up_ne _ _ hi]
    have hT9 : g1 49 = .inl (k.2.1.1, 120, .inl (fun i => nI (va_up T j 31 i))) := by rw [m_5, upd_nI]
    refine vx_ret ?_
    refine W.widen (k := 1) (n := 6) (by omega) (by omega) ?_
    exact m_iret hx hb hr hlocks hI (⟨c_8, by rw [htnj], by rw [htnj]; exact ⟨m_2, hWi.kept (fun i h1 h2 => hk9 i (by omega)), hSh.kept (fun i h1 h2 => hk9 i (by omega)), ⟨m_4, hT9⟩⟩, fun i hi => hk9 i (by omega)⟩) dX3_rub_41
  · exact m_throwS hx hb hst hown (cls := "java/lang/IndexOutOfBoundsException") (ik := 36) (is := 125) (ic := 40) x_fit36 (hts (.classLink RX3 36 "java/lang/IndexOutOfBoundsException") (by decide +kernel)) (hts (.initialized "java/lang/IndexOutOfBoundsException") (by decide +kernel)) (x_hat36 hE.1.2.2.2.2.2 (fun w h => hts w (List.mem_cons_of_mem _ (List.mem_append_right _ h)))) x_good36 (text := "no such place of the tape") (by decide) hE hI (by rw [hml]; exact hl.1) dX3_rub_11 dX3_rub_14 dX3_rub_15 dX3_rub_17 dX3_rub_20 htab hlocks (by decide) (Nat.le_of_ble_eq_true rfl) (⟨rfl, c_8⟩)
set_option maxHeartbeats 8000000 in
set_option maxRecDepth 100000 in
theorem c_X3_tape (k : mC) (l : Launch) (hst : l.stackTraces = false) (ad : Nat → Nat) (N : Nat) (g : Nat → va_E) (sz : Nat) (uns : Bool) (play rd n : Nat) (lat : Nat → Int32) (gar T : Nat → Nat) (came : Nat) (mis lost bel : Int32) (fig : Bool) (fi u : Nat) (z : Nat → Nat) (F : Nat → Nat → Nat) (r : Nat → Option Nat) (p0 : Int32) (hN : 50 ≤ N) (hW : CW play rd n lat gar T) (hwf : cWf (fi, u, z, F)) (hcame : came < 2000000000) (hC : CR k ad g uns play rd n lat gar T (came, mis, lost, bel, fig, fi, u, z, F) r)  : mXi k l yX3_tape wsX3_tape { frames := 6, cells := 1, slots := 6, locals := 82 } ad N g sz [.ref (ad 0), .int p0] (fun r1 g1 => inN p0 n = true ∧ r1 = nI (T (tn p0)) ∧ g1 = g) (fun E => E = "java/lang/IndexOutOfBoundsException" ∧ inN p0 n = false) := by
  refine mOfX (cc := cX3_tape) (maxL := 2) (ret := (some .int)) (by decide) rfl (Nat.le_of_ble_eq_true rfl) ?_
  intro p e s m below meth c hx hb hr hts hown hlocks hml htab hE hI ls hl
  have hl : lv_has ls 2 [(0, .ref (ad 0)), (1, .int p0)] := hl
  have h0 : g 0 = .inr (3, [.ref (ad 1), .ref (ad 6), .ref (ad 48), .int (nI rd), .int (bI fig), .int (bI uns), .int (nI came), .int mis, .int lost, .int bel]) := hC.1
  have hWi : CWi k ad g play lat gar := hC.2.1
  have hSh : CSh k ad g fi u z F r := hC.2.2.1
  have h48 : g 48 = .inr (0, [.ref (ad 49), .int (nI n)]) := hC.2.2.2.1
  have h49 : g 49 = .inl (k.2.1.1, 120, .inl (fun j => nI (T j))) := hC.2.2.2.2
  have hr48 : CRow k ad g 48 120 n (fun j => nI (T j)) := ⟨h48, h49⟩
  have h1 := hWi.1
  have h6 : g 6 = .inr (1, [.ref (ad 7), .int (nI fi), .int (nI u)]) := hSh.1
  obtain ⟨hplay, hrd, hn, hgar, hT, hlat⟩ := id hW
  have hfi : fi < 20 := hwf.1
  have hu0 : 0 < u := hwf.2.1
  have hu : u ≤ 20 := hwf.2.2
  refine lv_aload_n hx hb dX3_tape_0 rfl (lv_at hl 0 rfl) ?_
  refine m_get (ci := 3) (C := RX3) (T := TX3) (N' := 10) hx hb hts (by decide +kernel) hown hE hI 0 (by omega) h0 rfl 2 (by decide) (hts (.fieldLink RX3 28 "TapePrinter" "strip" "LTapePrinter$Row;") (by decide +kernel)) rfl dX3_tape_1 ?_
  refine lv_iload_n hx hb dX3_tape_4 rfl (lv_at hl 1 rfl) ?_
  refine m_callVi (As := [.int p0]) (rest := []) ⟨hx, hb, hml, hown, hts⟩ hE hI (c_X0_has k l ad N g _ 48 120 n (fun j => nI (T j)) p0 (by omega) (by omega) (by omega) ⟨h48, h49⟩) (cwV 1 hts gX3_tape_X0_has rfl rfl rfl (by decide +kernel) ⟨Nat.le_of_ble_eq_true rfl, Nat.le_of_ble_eq_true rfl⟩) (i := 48) (by omega) h48 rfl rfl hl.1 rfl (Nat.le_of_ble_eq_true rfl) dX3_tape_5 ⟨Nat.le_of_ble_eq_true rfl, Nat.le_of_ble_eq_true rfl⟩ (m_deti (fun H locs hI => ?_))
  refine m_zneB (tgt := 21) hx hb dX3_tape_8 (by decide) (fun c_8 => ?_) (fun c_8 => ?_)
  · obtain ⟨j, hj, rfl⟩ := inN_ex c_8 (by omega)
    have htnj := tn_nI (j := j) (by omega)
    have hl : lv_has ls 2 [(0, .ref (ad 0)), (1, .int (nI j))] := hl
    refine lv_aload_n hx hb dX3_tape_21 rfl (lv_at hl 0 rfl) ?_
    refine m_get (ci := 3) (C := RX3) (T := TX3) (N' := 10) hx hb hts (by decide +kernel) hown hE hI 0 (by omega) h0 rfl 2 (by decide) (hts (.fieldLink RX3 28 "TapePrinter" "strip" "LTapePrinter$Row;") (by decide +kernel)) rfl dX3_tape_22 ?_
    refine lv_iload_n hx hb dX3_tape_25 rfl (lv_at hl 1 rfl) ?_
    refine m_callVi (As := [.int (nI j)]) (rest := []) ⟨hx, hb, hml, hown, hts⟩ hE hI (c_X0_at k l ad N g _ 48 120 n (fun j => nI (T j)) j (by omega) (by omega) (by omega) ⟨h48, h49⟩ (by omega)) (cwV 1 hts gX3_tape_X0_at rfl rfl rfl (by decide +kernel) ⟨Nat.le_of_ble_eq_true rfl, Nat.le_of_ble_eq_true rfl⟩) (i := 48) (by omega) h48 rfl rfl hl.1 rfl (Nat.le_of_ble_eq_true rfl) dX3_tape_26 ⟨Nat.le_of_ble_eq_true rfl, Nat.le_of_ble_eq_true rfl⟩ (m_deti (fun H locs hI => ?_))
    refine m_top (show (fun j => nI (T j)) j = nI (T j) from rfl) ?_
    have ht_1 := hT j
    refine vx_ret ?_
    refine W.widen (k := 1) (n := 6) (by omega) (by omega) ?_
    exact m_iret hx hb hr hlocks hI (⟨c_8, by rw [htnj], rfl⟩) dX3_tape_29
  · exact m_throwS hx hb hst hown (cls := "java/lang/IndexOutOfBoundsException") (ik := 36) (is := 125) (ic := 40) x_fit36 (hts (.classLink RX3 36 "java/lang/IndexOutOfBoundsException") (by decide +kernel)) (hts (.initialized "java/lang/IndexOutOfBoundsException") (by decide +kernel)) (x_hat36 hE.1.2.2.2.2.2 (fun w h => hts w (List.mem_cons_of_mem _ (List.mem_append_right _ h)))) x_good36 (text := "no such place of the tape") (by decide) hE hI (by rw [hml]; exact hl.1) dX3_tape_11 dX3_tape_14 dX3_tape_15 dX3_tape_17 dX3_tape_20 htab hlocks (by decide) (Nat.le_of_ble_eq_true rfl) (⟨rfl, c_8⟩)
set_option maxHeartbeats 8000000 in
set_option maxRecDepth 100000 in
theorem c_X3_prints (k : mC) (l : Launch) (hst : l.stackTraces = false) (ad : Nat → Nat) (N : Nat) (g : Nat → va_E) (sz : Nat) (uns : Bool) (play rd n : Nat) (lat : Nat → Int32) (gar T : Nat → Nat) (came : Nat) (mis lost bel : Int32) (fig : Bool) (fi u : Nat) (z : Nat → Nat) (F : Nat → Nat → Nat) (r : Nat → Option Nat) (p0 : Int32) (hN : 50 ≤ N) (hW : CW play rd n lat gar T) (hwf : cWf (fi, u, z, F)) (hcame : came < 2000000000) (hC : CR k ad g uns play rd n lat gar T (came, mis, lost, bel, fig, fi, u, z, F) r)  : mXi k l yX3_prints wsX3_prints { frames := 6, cells := 1, slots := 6, locals := 82 } ad N g sz [.ref (ad 0), .int p0] (fun r1 g1 => inN p0 n = true ∧ r1 = nI (chF (T (tn p0)) (fa uns T (tn p0))) ∧ g1 = g) (fun E => E = "java/lang/IndexOutOfBoundsException" ∧ inN p0 n = false) := by
  refine mOfX (cc := cX3_prints) (maxL := 2) (ret := (some .int)) (by decide) rfl (Nat.le_of_ble_eq_true rfl) ?_
  intro p e s m below meth c hx hb hr hts hown hlocks hml htab hE hI ls hl
  have hl : lv_has ls 2 [(0, .ref (ad 0)), (1, .int p0)] := hl
  have h0 : g 0 = .inr (3, [.ref (ad 1), .ref (ad 6), .ref (ad 48), .int (nI rd), .int (bI fig), .int (bI uns), .int (nI came), .int mis, .int lost, .int bel]) := hC.1
  have hWi : CWi k ad g play lat gar := hC.2.1
  have hSh : CSh k ad g fi u z F r := hC.2.2.1
  have h48 : g 48 = .inr (0, [.ref (ad 49), .int (nI n)]) := hC.2.2.2.1
  have h49 : g 49 = .inl (k.2.1.1, 120, .inl (fun j => nI (T j))) := hC.2.2.2.2
  have hr48 : CRow k ad g 48 120 n (fun j => nI (T j)) := ⟨h48, h49⟩
  have h1 := hWi.1
  have h6 : g 6 = .inr (1, [.ref (ad 7), .int (nI fi), .int (nI u)]) := hSh.1
  obtain ⟨hplay, hrd, hn, hgar, hT, hlat⟩ := id hW
  have hfi : fi < 20 := hwf.1
  have hu0 : 0 < u := hwf.2.1
  have hu : u ≤ 20 := hwf.2.2
  refine lv_aload_n hx hb dX3_prints_0 rfl (lv_at hl 0 rfl) ?_
  refine m_get (ci := 3) (C := RX3) (T := TX3) (N' := 10) hx hb hts (by decide +kernel) hown hE hI 0 (by omega) h0 rfl 2 (by decide) (hts (.fieldLink RX3 28 "TapePrinter" "strip" "LTapePrinter$Row;") (by decide +kernel)) rfl dX3_prints_1 ?_
  refine lv_iload_n hx hb dX3_prints_4 rfl (lv_at hl 1 rfl) ?_
  refine m_callVi (As := [.int p0]) (rest := []) ⟨hx, hb, hml, hown, hts⟩ hE hI (c_X0_has k l ad N g _ 48 120 n (fun j => nI (T j)) p0 (by omega) (by omega) (by omega) ⟨h48, h49⟩) (cwV 1 hts gX3_prints_X0_has rfl rfl rfl (by decide +kernel) ⟨Nat.le_of_ble_eq_true rfl, Nat.le_of_ble_eq_true rfl⟩) (i := 48) (by omega) h48 rfl rfl hl.1 rfl (Nat.le_of_ble_eq_true rfl) dX3_prints_5 ⟨Nat.le_of_ble_eq_true rfl, Nat.le_of_ble_eq_true rfl⟩ (m_deti (fun H locs hI => ?_))
  refine m_zneB (tgt := 21) hx hb dX3_prints_8 (by decide) (fun c_8 => ?_) (fun c_8 => ?_)
  · obtain ⟨j, hj, rfl⟩ := inN_ex c_8 (by omega)
    have htnj := tn_nI (j := j) (by omega)
    have hl : lv_has ls 2 [(0, .ref (ad 0)), (1, .int (nI j))] := hl
    refine lv_aload_n hx hb dX3_prints_21 rfl (lv_at hl 0 rfl) ?_
    refine m_get (ci := 3) (C := RX3) (T := TX3) (N' := 10) hx hb hts (by decide +kernel) hown hE hI 0 (by omega) h0 rfl 2 (by decide) (hts (.fieldLink RX3 28 "TapePrinter" "strip" "LTapePrinter$Row;") (by decide +kernel)) rfl dX3_prints_22 ?_
    refine lv_iload_n hx hb dX3_prints_25 rfl (lv_at hl 1 rfl) ?_
    refine m_callVi (As := [.int (nI j)]) (rest := []) ⟨hx, hb, hml, hown, hts⟩ hE hI (c_X0_at k l ad N g _ 48 120 n (fun j => nI (T j)) j (by omega) (by omega) (by omega) ⟨h48, h49⟩ (by omega)) (cwV 1 hts gX3_prints_X0_at rfl rfl rfl (by decide +kernel) ⟨Nat.le_of_ble_eq_true rfl, Nat.le_of_ble_eq_true rfl⟩) (i := 48) (by omega) h48 rfl rfl hl.1 rfl (Nat.le_of_ble_eq_true rfl) dX3_prints_26 ⟨Nat.le_of_ble_eq_true rfl, Nat.le_of_ble_eq_true rfl⟩ (m_deti (fun H locs hI => ?_))
    refine m_top (show (fun j => nI (T j)) j = nI (T j) from rfl) ?_
    have ht_1 := hT j
    refine lv_aload_n hx hb dX3_prints_29 rfl (lv_at hl 0 rfl) ?_
    refine lv_iload_n hx hb dX3_prints_30 rfl (lv_at hl 1 rfl) ?_
    refine m_callVi (As := [.int (nI j)]) (rest := [.int (nI (T j))]) ⟨hx, hb, hml, hown, hts⟩ hE hI (c_X3_figuresAhead k l ad N g _ rd fig uns came mis lost bel n T j (by omega) h0 (by omega) hT ⟨h48, h49⟩ (by omega)) (cwV 1 hts gX3_prints_X3_figuresAhead rfl rfl rfl (by decide +kernel) ⟨Nat.le_of_ble_eq_true rfl, Nat.le_of_ble_eq_true rfl⟩) (i := 0) (by omega) h0 rfl rfl hl.1 rfl (Nat.le_of_ble_eq_true rfl) dX3_prints_31 ⟨Nat.le_of_ble_eq_true rfl, Nat.le_of_ble_eq_true rfl⟩ (m_deti (fun H locs hI => ?_))
    refine m_callSi (As := [.int (nI (T j)), .int (bI (fa uns T j))]) (rest := []) ⟨hx, hb, hml, hown, hts⟩ hE hI (c_X3_characterOf k l ad N g _ (T j) (fa uns T j) (hT _)) (va_cwS 2 hts gX3_prints_X3_characterOf rfl rfl rfl (by decide +kernel) ⟨Nat.le_of_ble_eq_true rfl, Nat.le_of_ble_eq_true rfl⟩) rfl hl.1 rfl (Nat.le_of_ble_eq_true rfl) dX3_prints_34 ⟨Nat.le_of_ble_eq_true rfl, Nat.le_of_ble_eq_true rfl⟩ (m_deti (fun H locs hI => ?_))
    refine vx_ret ?_
    refine W.widen (k := 1) (n := 6) (by omega) (by omega) ?_
    exact m_iret hx hb hr hlocks hI (⟨c_8, by rw [htnj], rfl⟩) dX3_prints_37
  · exact m_throwS hx hb hst hown (cls := "java/lang/IndexOutOfBoundsException") (ik := 36) (is := 125) (ic := 40) x_fit36 (hts (.classLink RX3 36 "java/lang/IndexOutOfBoundsException") (by decide +kernel)) (hts (.initialized "java/lang/IndexOutOfBoundsException") (by decide +kernel)) (x_hat36 hE.1.2.2.2.2.2 (fun w h => hts w (List.mem_cons_of_mem _ (List.mem_append_right _ h)))) x_good36 (text := "no such place of the tape") (by decide) hE hI (by rw [hml]; exact hl.1) dX3_prints_11 dX3_prints_14 dX3_prints_15 dX3_prints_17 dX3_prints_20 htab hlocks (by decide) (Nat.le_of_ble_eq_true rfl) (⟨rfl, c_8⟩)
set_option maxHeartbeats 8000000 in
set_option maxRecDepth 100000 in
theorem c_X3_wind (k : mC) (l : Launch) (hst : l.stackTraces = false) (ad : Nat → Nat) (N : Nat) (g : Nat → va_E) (sz : Nat) (uns : Bool) (play rd n : Nat) (lat : Nat → Int32) (gar T : Nat → Nat) (came : Nat) (mis lost bel : Int32) (fig : Bool) (fi u : Nat) (z : Nat → Nat) (F : Nat → Nat → Nat) (r : Nat → Option Nat) (p0 : Int32) (hN : 50 ≤ N) (hW : CW play rd n lat gar T) (hwf : cWf (fi, u, z, F)) (hcame : came < 2000000000) (hC : CR k ad g uns play rd n lat gar T (came, mis, lost, bel, fig, fi, u, z, F) r)  : mXi k l yX3_wind wsX3_wind { frames := 6, cells := 1, slots := 6, locals := 82 } ad N g sz [.ref (ad 0), .int p0] (fun r1 g1 => inN p0 (n + 1) = true ∧ r1 = nI rd ∧ CR k ad g1 uns play (tn p0) n lat gar T (came, mis, lost, bel, fig, fi, u, z, F) r ∧ ∀ i, 50 ≤ i → g1 i = g i) (fun E => E = "java/lang/IndexOutOfBoundsException" ∧ inN p0 (n + 1) = false) := by
  refine mOfX (cc := cX3_wind) (maxL := 3) (ret := (some .int)) (by decide) rfl (Nat.le_of_ble_eq_true rfl) ?_
  intro p e s m below meth c hx hb hr hts hown hlocks hml htab hE hI ls hl
  have hl : lv_has ls 3 [(0, .ref (ad 0)), (1, .int p0)] := hl
  have h0 : g 0 = .inr (3, [.ref (ad 1), .ref (ad 6), .ref (ad 48), .int (nI rd), .int (bI fig), .int (bI uns), .int (nI came), .int mis, .int lost, .int bel]) := hC.1
  have hWi : CWi k ad g play lat gar := hC.2.1
  have hSh : CSh k ad g fi u z F r := hC.2.2.1
  have h48 : g 48 = .inr (0, [.ref (ad 49), .int (nI n)]) := hC.2.2.2.1
  have h49 : g 49 = .inl (k.2.1.1, 120, .inl (fun j => nI (T j))) := hC.2.2.2.2
  have hr48 : CRow k ad g 48 120 n (fun j => nI (T j)) := ⟨h48, h49⟩
  have h1 := hWi.1
  have h6 : g 6 = .inr (1, [.ref (ad 7), .int (nI fi), .int (nI u)]) := hSh.1
  obtain ⟨hplay, hrd, hn, hgar, hT, hlat⟩ := id hW
  have hfi : fi < 20 := hwf.1
  have hu0 : 0 < u := hwf.2.1
  have hu : u ≤ 20 := hwf.2.2
  refine lv_iload_n hx hb dX3_wind_0 rfl (lv_at hl 1 rfl) ?_
  refine lv_if_lt (tgt := 15) hx hb dX3_wind_1 (by decide) (fun c_1 => ?_) (fun c_1 => ?_)
  · exact m_throwS hx hb hst hown (cls := "java/lang/IndexOutOfBoundsException") (ik := 36) (is := 125) (ic := 40) x_fit36 (hts (.classLink RX3 36 "java/lang/IndexOutOfBoundsException") (by decide +kernel)) (hts (.initialized "java/lang/IndexOutOfBoundsException") (by decide +kernel)) (x_hat36 hE.1.2.2.2.2.2 (fun w h => hts w (List.mem_cons_of_mem _ (List.mem_append_right _ h)))) x_good36 (text := "no such place of the tape") (by decide) hE hI (by rw [hml]; exact hl.1) dX3_wind_15 dX3_wind_18 dX3_wind_19 dX3_wind_21 dX3_wind_24 htab hlocks (by decide) (Nat.le_of_ble_eq_true rfl) (⟨rfl, inN_neg c_1⟩)
  · refine lv_iload_n hx hb dX3_wind_4 rfl (lv_at hl 1 rfl) ?_
    refine lv_aload_n hx hb dX3_wind_5 rfl (lv_at hl 0 rfl) ?_
    refine m_get (ci := 3) (C := RX3) (T := TX3) (N' := 10) hx hb hts (by decide +kernel) hown hE hI 0 (by omega) h0 rfl 2 (by decide) (hts (.fieldLink RX3 28 "TapePrinter" "strip" "LTapePrinter$Row;") (by decide +kernel)) rfl dX3_wind_6 ?_
    refine m_callVi (As := []) (rest := [.int p0]) ⟨hx, hb, hml, hown, hts⟩ hE hI (c_X0_size k l ad N g _ 48 120 n (fun j => nI (T j))  (by omega) (by omega) (by omega) ⟨h48, h49⟩) (cwV 0 hts gX3_wind_X0_size rfl rfl rfl (by decide +kernel) ⟨Nat.le_of_ble_eq_true rfl, Nat.le_of_ble_eq_true rfl⟩) (i := 48) (by omega) h48 rfl rfl hl.1 rfl (Nat.le_of_ble_eq_true rfl) dX3_wind_9 ⟨Nat.le_of_ble_eq_true rfl, Nat.le_of_ble_eq_true rfl⟩ (m_deti (fun H locs hI => ?_))
    refine lv_icmp_le (tgt := 25) hx hb dX3_wind_12 (by decide) (fun c_12 => ?_) (fun c_12 => ?_)
    · have hin0 : inN p0 (n + 1) = true := inN_le c_1 c_12 (by omega)
      obtain ⟨j, hj, rfl⟩ := inN_ex hin0 (by omega)
      have htnj := tn_nI (j := j) (by omega)
      have hl : lv_has ls 3 [(0, .ref (ad 0)), (1, .int (nI j))] := hl
      refine lv_aload_n hx hb dX3_wind_25 rfl (lv_at hl 0 rfl) ?_
      refine m_get (ci := 3) (C := RX3) (T := TX3) (N' := 10) hx hb hts (by decide +kernel) hown hE hI 0 (by omega) h0 rfl 3 (by decide) (hts (.fieldLink RX3 135 "TapePrinter" "reader" "I") (by decide +kernel)) rfl dX3_wind_26 ?_
      refine lv_istore_n (lv' := [(2, .int (nI rd)), (0, .ref (ad 0)), (1, .int (nI j))]) hx hb dX3_wind_29 rfl hl (by decide) rfl (fun ls hl => ?_)
      refine lv_aload_n hx hb dX3_wind_30 rfl (lv_at hl 1 rfl) ?_
      refine lv_iload_n hx hb dX3_wind_31 rfl (lv_at hl 2 rfl) ?_
      refine m_put (ci := 3) (C := RX3) (T := TX3) (N' := 10) (ty := .int) hx hb hts (by decide +kernel) tyX3 tyX3_ok nmX3 hown hE hI 0 (by omega) h0 rfl 3 (by decide) (hts (.fieldLink RX3 135 "TapePrinter" "reader" "I") (by decide +kernel)) rfl (by decide +kernel) rfl rfl (Nat.le_of_ble_eq_true rfl) dX3_wind_32 (fun H locs hI => ?_)
      obtain ⟨g1, hg1⟩ : ∃ zz, zz = va_up g 0 (.inr (3, [.ref (ad 1), .ref (ad 6), .ref (ad 48), .int (nI j), .int (bI fig), .int (bI uns), .int (nI came), .int mis, .int lost, .int bel])) := ⟨_, rfl⟩
      replace hI : mI k ad N g1 (mA ad N s.heap.size) s H locs := by rw [hg1]; exact hI
      have m_1 : g1 0 = .inr (3, [.ref (ad 1), .ref (ad 6), .ref (ad 48), .int (nI j), .int (bI fig), .int (bI uns), .int (nI came), .int mis, .int lost, .int bel]) := by rw [hg1, va_up_self]
      have m_2 : g1 1 = .inr (2, [.ref (ad 2), .ref (ad 4), .int (nI play)]) := by rw [hg1, va_up_ne _ _ (by omega)]; exact h1
      have m_3 : g1 48 = .inr (0, [.ref (ad 49), .int (nI n)]) := by rw [hg1, va_up_ne _ _ (by omega)]; exact h48
      have m_4 : g1 49 = .inl (k.2.1.1, 120, .inl (fun j => nI (T j))) := by rw [hg1, va_up_ne _ _ (by omega)]; exact h49
      have m_5 : g1 6 = .inr (1, [.ref (ad 7), .int (nI fi), .int (nI u)]) := by rw [hg1, va_up_ne _ _ (by omega)]; exact h6
      refine lv_iload_n hx hb dX3_wind_35 rfl (lv_at hl 0 rfl) ?_
      have hk9 : ∀ i, i ≠ 0 → g1 i = g i := fun i h3 => by rw [hg1, va_up_ne _ _ h3]
      refine vx_ret ?_
      refine W.widen (k := 1) (n := 6) (by omega) (by omega) ?_
      exact m_iret hx hb hr hlocks hI (⟨hin0, rfl, by rw [htnj]; exact ⟨m_1, hWi.kept (fun i h1 h2 => hk9 i (by omega)), hSh.kept (fun i h1 h2 => hk9 i (by omega)), ⟨(hk9 48 (by omega)).trans h48, (hk9 49 (by omega)).trans h49⟩⟩, fun i hi => hk9 i (by omega)⟩) dX3_wind_36
    · exact m_throwS hx hb hst hown (cls := "java/lang/IndexOutOfBoundsException") (ik := 36) (is := 125) (ic := 40) x_fit36 (hts (.classLink RX3 36 "java/lang/IndexOutOfBoundsException") (by decide +kernel)) (hts (.initialized "java/lang/IndexOutOfBoundsException") (by decide +kernel)) (x_hat36 hE.1.2.2.2.2.2 (fun w h => hts w (List.mem_cons_of_mem _ (List.mem_append_right _ h)))) x_good36 (text := "no such place of the tape") (by decide) hE hI (by rw [hml]; exact hl.1) dX3_wind_15 dX3_wind_18 dX3_wind_19 dX3_wind_21 dX3_wind_24 htab hlocks (by decide) (Nat.le_of_ble_eq_true rfl) (⟨rfl, inN_nle c_12 (by omega)⟩)
set_option maxHeartbeats 8000000 in
set_option maxRecDepth 100000 in
theorem c_X3_would (k : mC) (l : Launch) (hst : l.stackTraces = false) (ad : Nat → Nat) (N : Nat) (g : Nat → va_E) (sz : Nat) (uns : Bool) (play rd n : Nat) (lat : Nat → Int32) (gar T : Nat → Nat) (came : Nat) (mis lost bel : Int32) (fig : Bool) (fi u : Nat) (z : Nat → Nat) (F : Nat → Nat → Nat) (r : Nat → Option Nat) (p0 : Int32) (hN : 50 ≤ N) (hW : CW play rd n lat gar T) (hwf : cWf (fi, u, z, F)) (hcame : came < 2000000000) (hC : CR k ad g uns play rd n lat gar T (came, mis, lost, bel, fig, fi, u, z, F) r)  : mXi k l yX3_would wsX3_would { frames := 6, cells := 1, slots := 6, locals := 82 } ad N g sz [.ref (ad 0), .int p0] (fun r1 g1 => inN p0 32 = true ∧ r1 = nI (rdY play lat gar came (tn p0)) ∧ g1 = g) (fun E => E = "java/lang/IndexOutOfBoundsException" ∧ inN p0 32 = false) := by
  refine mOfX (cc := cX3_would) (maxL := 2) (ret := (some .int)) (by decide) rfl (Nat.le_of_ble_eq_true rfl) ?_
  intro p e s m below meth c hx hb hr hts hown hlocks hml htab hE hI ls hl
  have hl : lv_has ls 2 [(0, .ref (ad 0)), (1, .int p0)] := hl
  have h0 : g 0 = .inr (3, [.ref (ad 1), .ref (ad 6), .ref (ad 48), .int (nI rd), .int (bI fig), .int (bI uns), .int (nI came), .int mis, .int lost, .int bel]) := hC.1
  have hWi : CWi k ad g play lat gar := hC.2.1
  have hSh : CSh k ad g fi u z F r := hC.2.2.1
  have h48 : g 48 = .inr (0, [.ref (ad 49), .int (nI n)]) := hC.2.2.2.1
  have h49 : g 49 = .inl (k.2.1.1, 120, .inl (fun j => nI (T j))) := hC.2.2.2.2
  have hr48 : CRow k ad g 48 120 n (fun j => nI (T j)) := ⟨h48, h49⟩
  have h1 := hWi.1
  have h6 : g 6 = .inr (1, [.ref (ad 7), .int (nI fi), .int (nI u)]) := hSh.1
  obtain ⟨hplay, hrd, hn, hgar, hT, hlat⟩ := id hW
  have hfi : fi < 20 := hwf.1
  have hu0 : 0 < u := hwf.2.1
  have hu : u ≤ 20 := hwf.2.2
  refine lv_iload_n hx hb dX3_would_0 rfl (lv_at hl 1 rfl) ?_
  refine m_callSi (As := [.int p0]) (rest := []) ⟨hx, hb, hml, hown, hts⟩ hE hI (c_X3_isCode k l ad N g _ p0 ) (va_cwS 1 hts gX3_would_X3_isCode rfl rfl rfl (by decide +kernel) ⟨Nat.le_of_ble_eq_true rfl, Nat.le_of_ble_eq_true rfl⟩) rfl hl.1 rfl (Nat.le_of_ble_eq_true rfl) dX3_would_1 ⟨Nat.le_of_ble_eq_true rfl, Nat.le_of_ble_eq_true rfl⟩ (m_deti (fun H locs hI => ?_))
  refine m_zneB (tgt := 17) hx hb dX3_would_4 (by decide) (fun c_4 => ?_) (fun c_4 => ?_)
  · obtain ⟨j, hj, rfl⟩ := inN_ex c_4 (by omega)
    have htnj := tn_nI (j := j) (by omega)
    have hl : lv_has ls 2 [(0, .ref (ad 0)), (1, .int (nI j))] := hl
    refine lv_aload_n hx hb dX3_would_17 rfl (lv_at hl 0 rfl) ?_
    refine m_get (ci := 3) (C := RX3) (T := TX3) (N' := 10) hx hb hts (by decide +kernel) hown hE hI 0 (by omega) h0 rfl 0 (by decide) (hts (.fieldLink RX3 10 "TapePrinter" "wire" "LTapePrinter$Wire;") (by decide +kernel)) rfl dX3_would_18 ?_
    refine lv_iload_n hx hb dX3_would_21 rfl (lv_at hl 1 rfl) ?_
    refine lv_aload_n hx hb dX3_would_22 rfl (lv_at hl 0 rfl) ?_
    refine m_get (ci := 3) (C := RX3) (T := TX3) (N' := 10) hx hb hts (by decide +kernel) hown hE hI 0 (by omega) h0 rfl 6 (by decide) (hts (.fieldLink RX3 158 "TapePrinter" "came" "I") (by decide +kernel)) rfl dX3_would_23 ?_
    refine m_callVi (As := [.int (nI j), .int (nI came)]) (rest := []) ⟨hx, hb, hml, hown, hts⟩ hE hI (c_X2_readAs k l ad N g _ play lat gar j came (by omega) hWi (by omega) (by omega) hgar) (cwV 2 hts gX3_would_X2_readAs rfl rfl rfl (by decide +kernel) ⟨Nat.le_of_ble_eq_true rfl, Nat.le_of_ble_eq_true rfl⟩) (i := 1) (by omega) h1 rfl rfl hl.1 rfl (Nat.le_of_ble_eq_true rfl) dX3_would_26 ⟨Nat.le_of_ble_eq_true rfl, Nat.le_of_ble_eq_true rfl⟩ (m_deti (fun H locs hI => ?_))
    refine vx_ret ?_
    refine W.widen (k := 1) (n := 6) (by omega) (by omega) ?_
    exact m_iret hx hb hr hlocks hI (⟨c_4, by rw [htnj] <;> rfl, rfl⟩) dX3_would_29
  · exact m_throwS hx hb hst hown (cls := "java/lang/IndexOutOfBoundsException") (ik := 36) (is := 50) (ic := 40) x_fit36 (hts (.classLink RX3 36 "java/lang/IndexOutOfBoundsException") (by decide +kernel)) (hts (.initialized "java/lang/IndexOutOfBoundsException") (by decide +kernel)) (x_hat36 hE.1.2.2.2.2.2 (fun w h => hts w (List.mem_cons_of_mem _ (List.mem_append_right _ h)))) x_good36 (text := "no such code") (by decide) hE hI (by rw [hml]; exact hl.1) dX3_would_7 dX3_would_10 dX3_would_11 dX3_would_13 dX3_would_16 htab hlocks (by decide) (Nat.le_of_ble_eq_true rfl) (⟨rfl, c_4⟩)
theorem inN_out {x : Int32} {n : Nat} (h : inN x n = false) : x < 0 ∨ nI n ≤ x := by
  simp only [inN, Bool.and_eq_false_iff, decide_eq_false_iff_not] at h
  rcases h with h | h
  · left; rw [Int32.le_iff_toInt_le] at h; rw [Int32.lt_iff_toInt_lt]; omega
  · right; rw [Int32.lt_iff_toInt_lt] at h; rw [Int32.le_iff_toInt_le]; omega
set_option maxHeartbeats 8000000 in
set_option maxRecDepth 100000 in
theorem c_X3_page (k : mC) (l : Launch) (hst : l.stackTraces = false) (ad : Nat → Nat) (N : Nat) (g : Nat → va_E) (sz : Nat) (uns : Bool) (play rd n : Nat) (lat : Nat → Int32) (gar T : Nat → Nat) (came : Nat) (mis lost bel : Int32) (fig : Bool) (fi u : Nat) (z : Nat → Nat) (F : Nat → Nat → Nat) (r : Nat → Option Nat) (p0 p1 : Int32) (hN : 50 ≤ N) (hW : CW play rd n lat gar T) (hwf : cWf (fi, u, z, F)) (hcame : came < 2000000000) (hC : CR k ad g uns play rd n lat gar T (came, mis, lost, bel, fig, fi, u, z, F) r)  : mXi k l yX3_page wsX3_page { frames := 6, cells := 1, slots := 6, locals := 82 } ad N g sz [.ref (ad 0), .int p0, .int p1] (fun r1 g1 => (inN p0 u && inN p1 (z (slt fi (tn p0)))) = true ∧ r1 = nI (F (slt fi (tn p0)) (tn p1)) ∧ g1 = g) (fun E => E = "java/lang/IndexOutOfBoundsException" ∧ (inN p0 u && inN p1 (z (slt fi (tn p0)))) = false) := by
  refine mOfX (cc := cX3_page) (maxL := 4) (ret := (some .int)) (by decide) rfl (Nat.le_of_ble_eq_true rfl) ?_
  intro p e s m below meth c hx hb hr hts hown hlocks hml htab hE hI ls hl
  have hl : lv_has ls 4 [(0, .ref (ad 0)), (1, .int p0), (2, .int p1)] := hl
  have h0 : g 0 = .inr (3, [.ref (ad 1), .ref (ad 6), .ref (ad 48), .int (nI rd), .int (bI fig), .int (bI uns), .int (nI came), .int mis, .int lost, .int bel]) := hC.1
  have hWi : CWi k ad g play lat gar := hC.2.1
  have hSh : CSh k ad g fi u z F r := hC.2.2.1
  have h48 : g 48 = .inr (0, [.ref (ad 49), .int (nI n)]) := hC.2.2.2.1
  have h49 : g 49 = .inl (k.2.1.1, 120, .inl (fun j => nI (T j))) := hC.2.2.2.2
  have hr48 : CRow k ad g 48 120 n (fun j => nI (T j)) := ⟨h48, h49⟩
  have h1 := hWi.1
  have h6 : g 6 = .inr (1, [.ref (ad 7), .int (nI fi), .int (nI u)]) := hSh.1
  obtain ⟨hplay, hrd, hn, hgar, hT, hlat⟩ := id hW
  have hfi : fi < 20 := hwf.1
  have hu0 : 0 < u := hwf.2.1
  have hu : u ≤ 20 := hwf.2.2
  refine lv_aload_n hx hb dX3_page_0 rfl (lv_at hl 0 rfl) ?_
  refine m_get (ci := 3) (C := RX3) (T := TX3) (N' := 10) hx hb hts (by decide +kernel) hown hE hI 0 (by omega) h0 rfl 1 (by decide) (hts (.fieldLink RX3 19 "TapePrinter" "sheet" "LTapePrinter$Sheet;") (by decide +kernel)) rfl dX3_page_1 ?_
  refine lv_iload_n hx hb dX3_page_4 rfl (lv_at hl 1 rfl) ?_
  by_cases hq9 : inN p0 u = true
  · obtain ⟨j, hj, rfl⟩ := inN_ex hq9 (by omega)
    have htnj := tn_nI (j := j) (by omega)
    have hl : lv_has ls 4 [(0, .ref (ad 0)), (1, .int (nI j)), (2, .int p1)] := hl
    have hsl := slt_lt fi j
    have hqr := hSh.2.2.2 (slt fi j) hsl
    have hqa := hqr.1.1
    have hqb := hqr.1.2
    have hqc := hqr.2
    refine m_callVq (As := [.int (nI j)]) (rest := []) ⟨hx, hb, hml, hown, hts⟩ hE hI (c_X1_row_in k l ad N g _ fi u z F r j (by omega) (by omega) (by omega) (by omega) hSh (by omega)) (cwV 1 hts gX3_page_X1_row rfl rfl rfl (by decide +kernel) ⟨Nat.le_of_ble_eq_true rfl, Nat.le_of_ble_eq_true rfl⟩) (i := 6) (by omega) h6 rfl rfl hl.1 rfl (Nat.le_of_ble_eq_true rfl) dX3_page_5 ⟨Nat.le_of_ble_eq_true rfl, Nat.le_of_ble_eq_true rfl⟩ (m_detq (fun H locs hI => ?_))
    refine m_rf rfl ?_
    refine lv_astore_n (lv' := [(3, .ref (ad (8 + 2 * slt fi j))), (0, .ref (ad 0)), (1, .int (nI j)), (2, .int p1)]) hx hb dX3_page_8 rfl hl (by decide) rfl (fun ls hl => ?_)
    refine lv_aload_n hx hb dX3_page_9 rfl (lv_at hl 0 rfl) ?_
    refine lv_ifnull hx hb dX3_page_10 ?_
    refine lv_aload_n hx hb dX3_page_13 rfl (lv_at hl 0 rfl) ?_
    refine lv_iload_n hx hb dX3_page_14 rfl (lv_at hl 3 rfl) ?_
    refine m_callVi (As := [.int p1]) (rest := []) ⟨hx, hb, hml, hown, hts⟩ hE hI (c_X0_has k l ad N g _ (8 + 2 * slt fi j) 40 (z (slt fi j)) (fun ii => nI (F (slt fi j) ii)) p1 (by omega) (by omega) (by omega) ⟨hqa, hqb⟩) (cwV 1 hts gX3_page_X0_has rfl rfl rfl (by decide +kernel) ⟨Nat.le_of_ble_eq_true rfl, Nat.le_of_ble_eq_true rfl⟩) (i := (8 + 2 * slt fi j)) (by omega) hqa rfl rfl hl.1 rfl (Nat.le_of_ble_eq_true rfl) dX3_page_15 ⟨Nat.le_of_ble_eq_true rfl, Nat.le_of_ble_eq_true rfl⟩ (m_deti (fun H locs hI => ?_))
    refine m_zneB (tgt := 31) hx hb dX3_page_18 (by decide) (fun c_18 => ?_) (fun c_18 => ?_)
    · obtain ⟨i, hi, rfl⟩ := inN_ex c_18 (by omega)
      have htni := tn_nI (j := i) (by omega)
      have hl : lv_has ls 4 [(3, .ref (ad (8 + 2 * slt fi j))), (0, .ref (ad 0)), (1, .int (nI j)), (2, .int (nI i))] := hl
      refine lv_aload_n hx hb dX3_page_31 rfl (lv_at hl 0 rfl) ?_
      refine lv_iload_n hx hb dX3_page_32 rfl (lv_at hl 3 rfl) ?_
      refine m_callVi (As := [.int (nI i)]) (rest := []) ⟨hx, hb, hml, hown, hts⟩ hE hI (c_X0_at k l ad N g _ (8 + 2 * slt fi j) 40 (z (slt fi j)) (fun ii => nI (F (slt fi j) ii)) i (by omega) (by omega) (by omega) ⟨hqa, hqb⟩ (by omega)) (cwV 1 hts gX3_page_X0_at rfl rfl rfl (by decide +kernel) ⟨Nat.le_of_ble_eq_true rfl, Nat.le_of_ble_eq_true rfl⟩) (i := (8 + 2 * slt fi j)) (by omega) hqa rfl rfl hl.1 rfl (Nat.le_of_ble_eq_true rfl) dX3_page_33 ⟨Nat.le_of_ble_eq_true rfl, Nat.le_of_ble_eq_true rfl⟩ (m_deti (fun H locs hI => ?_))
      refine m_top (show (fun ii => nI (F (slt fi j) ii)) i = nI (F (slt fi j) i) from rfl) ?_
      refine vx_ret ?_
      refine W.widen (k := 1) (n := 6) (by omega) (by omega) ?_
      exact m_iret hx hb hr hlocks hI (⟨by rw [hq9, htnj, c_18] <;> rfl, by rw [htnj, htni], rfl⟩) dX3_page_36
    · exact m_throwS hx hb hst hown (cls := "java/lang/IndexOutOfBoundsException") (ik := 36) (is := 149) (ic := 40) x_fit36 (hts (.classLink RX3 36 "java/lang/IndexOutOfBoundsException") (by decide +kernel)) (hts (.initialized "java/lang/IndexOutOfBoundsException") (by decide +kernel)) (x_hat36 hE.1.2.2.2.2.2 (fun w h => hts w (List.mem_cons_of_mem _ (List.mem_append_right _ h)))) x_good36 (text := "no such line or place") (by decide) hE hI (by rw [hml]; exact hl.1) dX3_page_21 dX3_page_24 dX3_page_25 dX3_page_27 dX3_page_30 htab hlocks (by decide) (Nat.le_of_ble_eq_true rfl) (⟨rfl, by rw [hq9, htnj, c_18] <;> rfl⟩)
  · have hq8 : inN p0 u = false := by cases hh : inN p0 u <;> first | rfl | exact absurd hh hq9
    have hout : p0 < 0 ∨ nI u ≤ p0 := inN_out hq8
    refine m_callVq (As := [.int p0]) (rest := []) ⟨hx, hb, hml, hown, hts⟩ hE hI (c_X1_row_out k l ad N g _ fi u z F r p0 (by omega) (by omega) (by omega) (by omega) hSh hout) (cwV 1 hts gX3_page_X1_row rfl rfl rfl (by decide +kernel) ⟨Nat.le_of_ble_eq_true rfl, Nat.le_of_ble_eq_true rfl⟩) (i := 6) (by omega) h6 rfl rfl hl.1 rfl (Nat.le_of_ble_eq_true rfl) dX3_page_5 ⟨Nat.le_of_ble_eq_true rfl, Nat.le_of_ble_eq_true rfl⟩ (m_detq (fun H locs hI => ?_))
    refine m_rfN rfl ?_
    refine lv_astore_nN (lv' := [(3, .null), (0, .ref (ad 0)), (1, .int p0), (2, .int p1)]) hx hb dX3_page_8 rfl hl (by decide) rfl (fun ls hl => ?_)
    refine lv_aload_nN hx hb dX3_page_9 rfl (lv_at hl 0 rfl) ?_
    refine lv_ifnullN (tgt := 21) hx hb dX3_page_10 (by decide) ?_
    exact m_throwS hx hb hst hown (cls := "java/lang/IndexOutOfBoundsException") (ik := 36) (is := 149) (ic := 40) x_fit36 (hts (.classLink RX3 36 "java/lang/IndexOutOfBoundsException") (by decide +kernel)) (hts (.initialized "java/lang/IndexOutOfBoundsException") (by decide +kernel)) (x_hat36 hE.1.2.2.2.2.2 (fun w h => hts w (List.mem_cons_of_mem _ (List.mem_append_right _ h)))) x_good36 (text := "no such line or place") (by decide) hE hI (by rw [hml]; exact hl.1) dX3_page_21 dX3_page_24 dX3_page_25 dX3_page_27 dX3_page_30 htab hlocks (by decide) (Nat.le_of_ble_eq_true rfl) (⟨rfl, by rw [hq8] <;> rfl⟩)
set_option maxHeartbeats 8000000 in
set_option maxRecDepth 100000 in
theorem c_X3_length (k : mC) (l : Launch) (hst : l.stackTraces = false) (ad : Nat → Nat) (N : Nat) (g : Nat → va_E) (sz : Nat) (uns : Bool) (play rd n : Nat) (lat : Nat → Int32) (gar T : Nat → Nat) (came : Nat) (mis lost bel : Int32) (fig : Bool) (fi u : Nat) (z : Nat → Nat) (F : Nat → Nat → Nat) (r : Nat → Option Nat) (p0 : Int32) (hN : 50 ≤ N) (hW : CW play rd n lat gar T) (hwf : cWf (fi, u, z, F)) (hcame : came < 2000000000) (hC : CR k ad g uns play rd n lat gar T (came, mis, lost, bel, fig, fi, u, z, F) r)  : mXi k l yX3_length wsX3_length { frames := 6, cells := 1, slots := 6, locals := 82 } ad N g sz [.ref (ad 0), .int p0] (fun r1 g1 => inN p0 u = true ∧ r1 = nI (z (slt fi (tn p0))) ∧ g1 = g) (fun E => E = "java/lang/IndexOutOfBoundsException" ∧ inN p0 u = false) := by
  refine mOfX (cc := cX3_length) (maxL := 3) (ret := (some .int)) (by decide) rfl (Nat.le_of_ble_eq_true rfl) ?_
  intro p e s m below meth c hx hb hr hts hown hlocks hml htab hE hI ls hl
  have hl : lv_has ls 3 [(0, .ref (ad 0)), (1, .int p0)] := hl
  have h0 : g 0 = .inr (3, [.ref (ad 1), .ref (ad 6), .ref (ad 48), .int (nI rd), .int (bI fig), .int (bI uns), .int (nI came), .int mis, .int lost, .int bel]) := hC.1
  have hWi : CWi k ad g play lat gar := hC.2.1
  have hSh : CSh k ad g fi u z F r := hC.2.2.1
  have h48 : g 48 = .inr (0, [.ref (ad 49), .int (nI n)]) := hC.2.2.2.1
  have h49 : g 49 = .inl (k.2.1.1, 120, .inl (fun j => nI (T j))) := hC.2.2.2.2
  have hr48 : CRow k ad g 48 120 n (fun j => nI (T j)) := ⟨h48, h49⟩
  have h1 := hWi.1
  have h6 : g 6 = .inr (1, [.ref (ad 7), .int (nI fi), .int (nI u)]) := hSh.1
  obtain ⟨hplay, hrd, hn, hgar, hT, hlat⟩ := id hW
  have hfi : fi < 20 := hwf.1
  have hu0 : 0 < u := hwf.2.1
  have hu : u ≤ 20 := hwf.2.2
  refine lv_aload_n hx hb dX3_length_0 rfl (lv_at hl 0 rfl) ?_
  refine m_get (ci := 3) (C := RX3) (T := TX3) (N' := 10) hx hb hts (by decide +kernel) hown hE hI 0 (by omega) h0 rfl 1 (by decide) (hts (.fieldLink RX3 19 "TapePrinter" "sheet" "LTapePrinter$Sheet;") (by decide +kernel)) rfl dX3_length_1 ?_
  refine lv_iload_n hx hb dX3_length_4 rfl (lv_at hl 1 rfl) ?_
  by_cases hq9 : inN p0 u = true
  · obtain ⟨j, hj, rfl⟩ := inN_ex hq9 (by omega)
    have htnj := tn_nI (j := j) (by omega)
    have hl : lv_has ls 3 [(0, .ref (ad 0)), (1, .int (nI j))] := hl
    have hsl := slt_lt fi j
    have hqr := hSh.2.2.2 (slt fi j) hsl
    have hqa := hqr.1.1
    have hqb := hqr.1.2
    have hqc := hqr.2
    refine m_callVq (As := [.int (nI j)]) (rest := []) ⟨hx, hb, hml, hown, hts⟩ hE hI (c_X1_row_in k l ad N g _ fi u z F r j (by omega) (by omega) (by omega) (by omega) hSh (by omega)) (cwV 1 hts gX3_length_X1_row rfl rfl rfl (by decide +kernel) ⟨Nat.le_of_ble_eq_true rfl, Nat.le_of_ble_eq_true rfl⟩) (i := 6) (by omega) h6 rfl rfl hl.1 rfl (Nat.le_of_ble_eq_true rfl) dX3_length_5 ⟨Nat.le_of_ble_eq_true rfl, Nat.le_of_ble_eq_true rfl⟩ (m_detq (fun H locs hI => ?_))
    refine m_rf rfl ?_
    refine lv_astore_n (lv' := [(2, .ref (ad (8 + 2 * slt fi j))), (0, .ref (ad 0)), (1, .int (nI j))]) hx hb dX3_length_8 rfl hl (by decide) rfl (fun ls hl => ?_)
    refine lv_aload_n hx hb dX3_length_9 rfl (lv_at hl 0 rfl) ?_
    refine lv_ifnonnull (tgt := 23) hx hb dX3_length_10 (by decide) ?_
    refine lv_aload_n hx hb dX3_length_23 rfl (lv_at hl 0 rfl) ?_
    refine m_callVi (As := []) (rest := []) ⟨hx, hb, hml, hown, hts⟩ hE hI (c_X0_size k l ad N g _ (8 + 2 * slt fi j) 40 (z (slt fi j)) (fun ii => nI (F (slt fi j) ii))  (by omega) (by omega) (by omega) ⟨hqa, hqb⟩) (cwV 0 hts gX3_length_X0_size rfl rfl rfl (by decide +kernel) ⟨Nat.le_of_ble_eq_true rfl, Nat.le_of_ble_eq_true rfl⟩) (i := (8 + 2 * slt fi j)) (by omega) hqa rfl rfl hl.1 rfl (Nat.le_of_ble_eq_true rfl) dX3_length_24 ⟨Nat.le_of_ble_eq_true rfl, Nat.le_of_ble_eq_true rfl⟩ (m_deti (fun H locs hI => ?_))
    refine vx_ret ?_
    refine W.widen (k := 1) (n := 6) (by omega) (by omega) ?_
    exact m_iret hx hb hr hlocks hI (⟨hq9, by rw [htnj], rfl⟩) dX3_length_27
  · have hq8 : inN p0 u = false := by cases hh : inN p0 u <;> first | rfl | exact absurd hh hq9
    have hout : p0 < 0 ∨ nI u ≤ p0 := inN_out hq8
    refine m_callVq (As := [.int p0]) (rest := []) ⟨hx, hb, hml, hown, hts⟩ hE hI (c_X1_row_out k l ad N g _ fi u z F r p0 (by omega) (by omega) (by omega) (by omega) hSh hout) (cwV 1 hts gX3_length_X1_row rfl rfl rfl (by decide +kernel) ⟨Nat.le_of_ble_eq_true rfl, Nat.le_of_ble_eq_true rfl⟩) (i := 6) (by omega) h6 rfl rfl hl.1 rfl (Nat.le_of_ble_eq_true rfl) dX3_length_5 ⟨Nat.le_of_ble_eq_true rfl, Nat.le_of_ble_eq_true rfl⟩ (m_detq (fun H locs hI => ?_))
    refine m_rfN rfl ?_
    refine lv_astore_nN (lv' := [(2, .null), (0, .ref (ad 0)), (1, .int p0)]) hx hb dX3_length_8 rfl hl (by decide) rfl (fun ls hl => ?_)
    refine lv_aload_nN hx hb dX3_length_9 rfl (lv_at hl 0 rfl) ?_
    refine lv_ifnonnullN hx hb dX3_length_10 ?_
    exact m_throwS hx hb hst hown (cls := "java/lang/IndexOutOfBoundsException") (ik := 36) (is := 151) (ic := 40) x_fit36 (hts (.classLink RX3 36 "java/lang/IndexOutOfBoundsException") (by decide +kernel)) (hts (.initialized "java/lang/IndexOutOfBoundsException") (by decide +kernel)) (x_hat36 hE.1.2.2.2.2.2 (fun w h => hts w (List.mem_cons_of_mem _ (List.mem_append_right _ h)))) x_good36 (text := "no such line") (by decide) hE hI (by rw [hml]; exact hl.1) dX3_length_13 dX3_length_16 dX3_length_17 dX3_length_19 dX3_length_22 htab hlocks (by decide) (Nat.le_of_ble_eq_true rfl) (⟨rfl, hq8⟩)
