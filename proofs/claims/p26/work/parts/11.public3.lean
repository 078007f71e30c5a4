/-- what count tells -/
def cntV (u chars : Nat) (fig : Bool) (play n rd came : Nat) (mis lost : Int32) (uns : Bool) (bel : Int32) (q : Nat) : Int32 :=
  if q = 0 then nI u else if q = 1 then nI chars else if q = 2 then bI fig else if q = 3 then nI play else if q = 4 then nI n else if q = 5 then nI rd else if q = 6 then nI came else if q = 7 then mis else if q = 8 then lost else if q = 9 then bI uns else bel
set_option maxHeartbeats 8000000 in
set_option maxRecDepth 100000 in
theorem c_X3_counted (k : mC) (l : Launch) (ad : Nat → Nat) (N : Nat) (g : Nat → va_E) (sz : Nat) (uns : Bool) (play rd n : Nat) (lat : Nat → Int32) (gar T : Nat → Nat) (came : Nat) (mis lost bel : Int32) (fig : Bool) (fi u : Nat) (z : Nat → Nat) (F : Nat → Nat → Nat) (r : Nat → Option Nat) (q : Nat) (hN : 50 ≤ N) (hW : CW play rd n lat gar T) (hwf : cWf (fi, u, z, F)) (hcame : came < 2000000000) (hC : CR k ad g uns play rd n lat gar T (came, mis, lost, bel, fig, fi, u, z, F) r) (hq : q < 11) : mCi k l yX3_counted wsX3_counted { frames := 2, cells := 0, slots := 0, locals := 45 } ad N g sz [.ref (ad 0), .int (nI q)] (fun r1 g1 => r1 = cntV u (sumz z fi u) fig play n rd came mis lost uns bel q ∧ g1 = g) := by
  refine mOf (Qc := fun z9 => va_Qi (fun r1 g1 => r1 = cntV u (sumz z fi u) fig play n rd came mis lost uns bel q ∧ g1 = g) (mB k ad N) (mA ad N z9)) (cc := cX3_counted) (maxL := 2) (ret := (some .int)) (by decide) rfl (Nat.le_of_ble_eq_true rfl) ?_
  intro p e s m below meth c hx hb hr hts hown hlocks hml hin hE hI ls hl
  have hl : lv_has ls 2 [(0, .ref (ad 0)), (1, .int (nI q))] := hl
  have h0 : g 0 = .inr (3, [.ref (ad 1), .ref (ad 6), .ref (ad 48), .int (nI rd), .int (bI fig), .int (bI uns), .int (nI came), .int mis, .int lost, .int bel]) := hC.1
  have hWi : CWi k ad g play lat gar := hC.2.1
  have hSh : CSh k ad g fi u z F r := hC.2.2.1
  have h48 : g 48 = .inr (0, [.ref (ad 49), .int (nI n)]) := hC.2.2.2.1
  have h49 : g 49 = .inl (k.2.1.1, 120, .inl (fun j => nI (T j))) := hC.2.2.2.2
  have hr48 : CRow k ad g 48 120 n (fun j => nI (T j)) := ⟨h48, h49⟩
  have h1 := hWi.1
  have h6 : g 6 = .inr (1, [.ref (ad 7), .int (nI fi), .int (nI u)]) := hSh.1
  obtain ⟨hplay, hrd, hn, hgar, hT, hlat⟩ := id hW
  have hfi : fi < 20 := hwf.1
  have hu0 : 0 < u := hwf.2.1
  have hu : u ≤ 20 := hwf.2.2
  refine lv_iload_n hx hb dX3_counted_0 rfl (lv_at hl 1 rfl) ?_
  have hsw : q = 0 ∨ q = 1 ∨ q = 2 ∨ q = 3 ∨ q = 4 ∨ q = 5 ∨ q = 6 ∨ q = 7 ∨ q = 8 ∨ q = 9 ∨ q = 10 := by omega
  rcases hsw with rfl | rfl | rfl | rfl | rfl | rfl | rfl | rfl | rfl | rfl | rfl
  · refine lv_tableIn (tgt := 56) hx hb dX3_counted_1 (by decide) (by decide) (off := 55) (by decide) (by decide) ?_
    refine lv_aload_n hx hb dX3_counted_56 rfl (lv_at hl 0 rfl) ?_
    refine m_get (ci := 3) (C := RX3) (T := TX3) (N' := 10) hx hb hts (by decide +kernel) hown hE hI 0 (by omega) h0 rfl 1 (by decide) (hts (.fieldLink RX3 19 "TapePrinter" "sheet" "LTapePrinter$Sheet;") (by decide +kernel)) rfl dX3_counted_57 ?_
    refine m_callVi (As := []) (rest := []) ⟨hx, hb, hml, hown, hts⟩ hE hI (c_X1_lines k l ad N g _ fi u z F r  (by omega) (by omega) (by omega) (by omega) hSh ) (cwV 0 hts gX3_counted_X1_lines rfl rfl rfl (by decide +kernel) ⟨Nat.le_of_ble_eq_true rfl, Nat.le_of_ble_eq_true rfl⟩) (i := 6) (by omega) h6 rfl rfl hl.1 rfl (Nat.le_of_ble_eq_true rfl) dX3_counted_60 ⟨Nat.le_of_ble_eq_true rfl, Nat.le_of_ble_eq_true rfl⟩ (m_deti (fun H locs hI => ?_))
    exact m_iret hx hb hr hlocks hI (⟨rfl, rfl⟩) dX3_counted_63
  · refine lv_tableIn (tgt := 64) hx hb dX3_counted_1 (by decide) (by decide) (off := 63) (by decide) (by decide) ?_
    refine lv_aload_n hx hb dX3_counted_64 rfl (lv_at hl 0 rfl) ?_
    refine m_get (ci := 3) (C := RX3) (T := TX3) (N' := 10) hx hb hts (by decide +kernel) hown hE hI 0 (by omega) h0 rfl 1 (by decide) (hts (.fieldLink RX3 19 "TapePrinter" "sheet" "LTapePrinter$Sheet;") (by decide +kernel)) rfl dX3_counted_65 ?_
    refine m_callVi (As := []) (rest := []) ⟨hx, hb, hml, hown, hts⟩ hE hI (c_X1_characters k l ad N g _ fi u z F r  (by omega) (by omega) (by omega) (by omega) hSh ) (cwV 0 hts gX3_counted_X1_characters rfl rfl rfl (by decide +kernel) ⟨Nat.le_of_ble_eq_true rfl, Nat.le_of_ble_eq_true rfl⟩) (i := 6) (by omega) h6 rfl rfl hl.1 rfl (Nat.le_of_ble_eq_true rfl) dX3_counted_68 ⟨Nat.le_of_ble_eq_true rfl, Nat.le_of_ble_eq_true rfl⟩ (m_deti (fun H locs hI => ?_))
    exact m_iret hx hb hr hlocks hI (⟨rfl, rfl⟩) dX3_counted_71
  · refine lv_tableIn (tgt := 72) hx hb dX3_counted_1 (by decide) (by decide) (off := 71) (by decide) (by decide) ?_
    refine lv_aload_n hx hb dX3_counted_72 rfl (lv_at hl 0 rfl) ?_
    refine m_get (ci := 3) (C := RX3) (T := TX3) (N' := 10) hx hb hts (by decide +kernel) hown hE hI 0 (by omega) h0 rfl 4 (by decide) (hts (.fieldLink RX3 61 "TapePrinter" "figures" "Z") (by decide +kernel)) rfl dX3_counted_73 ?_
    refine m_zeqB (tgt := 83) hx hb dX3_counted_76 (by decide) (fun c_76 => ?_) (fun c_76 => ?_)
    · refine lv_iconst (v := nI 0) hx hb dX3_counted_83 (by decide) ?_
      refine m_top (y := bI fig) (by rw [c_76]; decide) ?_
      exact m_iret hx hb hr hlocks hI (⟨rfl, rfl⟩) dX3_counted_84
    · refine lv_iconst (v := nI 1) hx hb dX3_counted_79 (by decide) ?_
      refine lv_goto (tgt := 84) hx hb dX3_counted_80 (by decide) ?_
      refine m_top (y := bI fig) (by rw [c_76]; decide) ?_
      exact m_iret hx hb hr hlocks hI (⟨rfl, rfl⟩) dX3_counted_84
  · refine lv_tableIn (tgt := 85) hx hb dX3_counted_1 (by decide) (by decide) (off := 84) (by decide) (by decide) ?_
    refine lv_aload_n hx hb dX3_counted_85 rfl (lv_at hl 0 rfl) ?_
    refine m_get (ci := 3) (C := RX3) (T := TX3) (N' := 10) hx hb hts (by decide +kernel) hown hE hI 0 (by omega) h0 rfl 0 (by decide) (hts (.fieldLink RX3 10 "TapePrinter" "wire" "LTapePrinter$Wire;") (by decide +kernel)) rfl dX3_counted_86 ?_
    refine m_callVi (As := []) (rest := []) ⟨hx, hb, hml, hown, hts⟩ hE hI (c_X2_play k l ad N g _ play lat gar  (by omega) hWi ) (cwV 0 hts gX3_counted_X2_play rfl rfl rfl (by decide +kernel) ⟨Nat.le_of_ble_eq_true rfl, Nat.le_of_ble_eq_true rfl⟩) (i := 1) (by omega) h1 rfl rfl hl.1 rfl (Nat.le_of_ble_eq_true rfl) dX3_counted_89 ⟨Nat.le_of_ble_eq_true rfl, Nat.le_of_ble_eq_true rfl⟩ (m_deti (fun H locs hI => ?_))
    exact m_iret hx hb hr hlocks hI (⟨rfl, rfl⟩) dX3_counted_92
  · refine lv_tableIn (tgt := 93) hx hb dX3_counted_1 (by decide) (by decide) (off := 92) (by decide) (by decide) ?_
    refine lv_aload_n hx hb dX3_counted_93 rfl (lv_at hl 0 rfl) ?_
    refine m_get (ci := 3) (C := RX3) (T := TX3) (N' := 10) hx hb hts (by decide +kernel) hown hE hI 0 (by omega) h0 rfl 2 (by decide) (hts (.fieldLink RX3 28 "TapePrinter" "strip" "LTapePrinter$Row;") (by decide +kernel)) rfl dX3_counted_94 ?_
    refine m_callVi (As := []) (rest := []) ⟨hx, hb, hml, hown, hts⟩ hE hI (c_X0_size k l ad N g _ 48 120 n (fun j => nI (T j))  (by omega) (by omega) (by omega) ⟨h48, h49⟩) (cwV 0 hts gX3_counted_X0_size rfl rfl rfl (by decide +kernel) ⟨Nat.le_of_ble_eq_true rfl, Nat.le_of_ble_eq_true rfl⟩) (i := 48) (by omega) h48 rfl rfl hl.1 rfl (Nat.le_of_ble_eq_true rfl) dX3_counted_97 ⟨Nat.le_of_ble_eq_true rfl, Nat.le_of_ble_eq_true rfl⟩ (m_deti (fun H locs hI => ?_))
    exact m_iret hx hb hr hlocks hI (⟨rfl, rfl⟩) dX3_counted_100
  · refine lv_tableIn (tgt := 101) hx hb dX3_counted_1 (by decide) (by decide) (off := 100) (by decide) (by decide) ?_
    refine lv_aload_n hx hb dX3_counted_101 rfl (lv_at hl 0 rfl) ?_
    refine m_get (ci := 3) (C := RX3) (T := TX3) (N' := 10) hx hb hts (by decide +kernel) hown hE hI 0 (by omega) h0 rfl 3 (by decide) (hts (.fieldLink RX3 135 "TapePrinter" "reader" "I") (by decide +kernel)) rfl dX3_counted_102 ?_
    exact m_iret hx hb hr hlocks hI (⟨rfl, rfl⟩) dX3_counted_105
  · refine lv_tableIn (tgt := 106) hx hb dX3_counted_1 (by decide) (by decide) (off := 105) (by decide) (by decide) ?_
    refine lv_aload_n hx hb dX3_counted_106 rfl (lv_at hl 0 rfl) ?_
    refine m_get (ci := 3) (C := RX3) (T := TX3) (N' := 10) hx hb hts (by decide +kernel) hown hE hI 0 (by omega) h0 rfl 6 (by decide) (hts (.fieldLink RX3 158 "TapePrinter" "came" "I") (by decide +kernel)) rfl dX3_counted_107 ?_
    exact m_iret hx hb hr hlocks hI (⟨rfl, rfl⟩) dX3_counted_110
  · refine lv_tableIn (tgt := 111) hx hb dX3_counted_1 (by decide) (by decide) (off := 110) (by decide) (by decide) ?_
    refine lv_aload_n hx hb dX3_counted_111 rfl (lv_at hl 0 rfl) ?_
    refine m_get (ci := 3) (C := RX3) (T := TX3) (N' := 10) hx hb hts (by decide +kernel) hown hE hI 0 (by omega) h0 rfl 7 (by decide) (hts (.fieldLink RX3 198 "TapePrinter" "misread" "I") (by decide +kernel)) rfl dX3_counted_112 ?_
    exact m_iret hx hb hr hlocks hI (⟨rfl, rfl⟩) dX3_counted_115
  · refine lv_tableIn (tgt := 116) hx hb dX3_counted_1 (by decide) (by decide) (off := 115) (by decide) (by decide) ?_
    refine lv_aload_n hx hb dX3_counted_116 rfl (lv_at hl 0 rfl) ?_
    refine m_get (ci := 3) (C := RX3) (T := TX3) (N' := 10) hx hb hts (by decide +kernel) hown hE hI 0 (by omega) h0 rfl 8 (by decide) (hts (.fieldLink RX3 201 "TapePrinter" "lost" "I") (by decide +kernel)) rfl dX3_counted_117 ?_
    exact m_iret hx hb hr hlocks hI (⟨rfl, rfl⟩) dX3_counted_120
  · refine lv_tableIn (tgt := 121) hx hb dX3_counted_1 (by decide) (by decide) (off := 120) (by decide) (by decide) ?_
    refine lv_aload_n hx hb dX3_counted_121 rfl (lv_at hl 0 rfl) ?_
    refine m_get (ci := 3) (C := RX3) (T := TX3) (N' := 10) hx hb hts (by decide +kernel) hown hE hI 0 (by omega) h0 rfl 5 (by decide) (hts (.fieldLink RX3 90 "TapePrinter" "unshifts" "Z") (by decide +kernel)) rfl dX3_counted_122 ?_
    refine m_zeqB (tgt := 132) hx hb dX3_counted_125 (by decide) (fun c_125 => ?_) (fun c_125 => ?_)
    · refine lv_iconst (v := nI 0) hx hb dX3_counted_132 (by decide) ?_
      refine m_top (y := bI uns) (by rw [c_125]; decide) ?_
      exact m_iret hx hb hr hlocks hI (⟨rfl, rfl⟩) dX3_counted_133
    · refine lv_iconst (v := nI 1) hx hb dX3_counted_128 (by decide) ?_
      refine lv_goto (tgt := 133) hx hb dX3_counted_129 (by decide) ?_
      refine m_top (y := bI uns) (by rw [c_125]; decide) ?_
      exact m_iret hx hb hr hlocks hI (⟨rfl, rfl⟩) dX3_counted_133
  · refine lv_tableOut (tgt := 134) hx hb dX3_counted_1 (by decide) (by decide) ?_
    refine lv_aload_n hx hb dX3_counted_134 rfl (lv_at hl 0 rfl) ?_
    refine m_get (ci := 3) (C := RX3) (T := TX3) (N' := 10) hx hb hts (by decide +kernel) hown hE hI 0 (by omega) h0 rfl 9 (by decide) (hts (.fieldLink RX3 204 "TapePrinter" "bells" "I") (by decide +kernel)) rfl dX3_counted_135 ?_
    exact m_iret hx hb hr hlocks hI (⟨rfl, rfl⟩) dX3_counted_138
set_option maxHeartbeats 8000000 in
set_option maxRecDepth 100000 in
theorem c_X3_count (k : mC) (l : Launch) (hst : l.stackTraces = false) (ad : Nat → Nat) (N : Nat) (g : Nat → va_E) (sz : Nat) (uns : Bool) (play rd n : Nat) (lat : Nat → Int32) (gar T : Nat → Nat) (came : Nat) (mis lost bel : Int32) (fig : Bool) (fi u : Nat) (z : Nat → Nat) (F : Nat → Nat → Nat) (r : Nat → Option Nat) (p0 : Int32) (hN : 50 ≤ N) (hW : CW play rd n lat gar T) (hwf : cWf (fi, u, z, F)) (hcame : came < 2000000000) (hC : CR k ad g uns play rd n lat gar T (came, mis, lost, bel, fig, fi, u, z, F) r)  : mXi k l yX3_count wsX3_count { frames := 6, cells := 1, slots := 6, locals := 82 } ad N g sz [.ref (ad 0), .int p0] (fun r1 g1 => inN p0 11 = true ∧ r1 = cntV u (sumz z fi u) fig play n rd came mis lost uns bel (tn p0) ∧ g1 = g) (fun E => E = "java/lang/IndexOutOfBoundsException" ∧ inN p0 11 = false) := by
  refine mOfX (cc := cX3_count) (maxL := 2) (ret := (some .int)) (by decide) rfl (Nat.le_of_ble_eq_true rfl) ?_
  intro p e s m below meth c hx hb hr hts hown hlocks hml htab hE hI ls hl
  have hl : lv_has ls 2 [(0, .ref (ad 0)), (1, .int p0)] := hl
  have h0 : g 0 = .inr (3, [.ref (ad 1), .ref (ad 6), .ref (ad 48), .int (nI rd), .int (bI fig), .int (bI uns), .int (nI came), .int mis, .int lost, .int bel]) := hC.1
  have hWi : CWi k ad g play lat gar := hC.2.1
  have hSh : CSh k ad g fi u z F r := hC.2.2.1
  have h48 : g 48 = .inr (0, [.ref (ad 49), .int (nI n)]) := hC.2.2.2.1
  have h49 : g 49 = .inl (k.2.1.1, 120, .inl (fun j => nI (T j))) := hC.2.2.2.2
  have hr48 : CRow k ad g 48 120 n (fun j => nI (T j)) := ⟨h48, h49⟩
  have h1 := hWi.1
  have h6 : g 6 = .inr (1, [.ref (ad 7), .int (nI fi), .int (nI u)]) := hSh.1
  obtain ⟨hplay, hrd, hn, hgar, hT, hlat⟩ := id hW
  have hfi : fi < 20 := hwf.1
  have hu0 : 0 < u := hwf.2.1
  have hu : u ≤ 20 := hwf.2.2
  refine lv_iload_n hx hb dX3_count_0 rfl (lv_at hl 1 rfl) ?_
  refine lv_if_lt (tgt := 10) hx hb dX3_count_1 (by decide) (fun c_1 => ?_) (fun c_1 => ?_)
  · exact m_throwS hx hb hst hown (cls := "java/lang/IndexOutOfBoundsException") (ik := 36) (is := 153) (ic := 40) x_fit36 (hts (.classLink RX3 36 "java/lang/IndexOutOfBoundsException") (by decide +kernel)) (hts (.initialized "java/lang/IndexOutOfBoundsException") (by decide +kernel)) (x_hat36 hE.1.2.2.2.2.2 (fun w h => hts w (List.mem_cons_of_mem _ (List.mem_append_right _ h)))) x_good36 (text := "nothing such is counted") (by decide) hE hI (by rw [hml]; exact hl.1) dX3_count_10 dX3_count_13 dX3_count_14 dX3_count_16 dX3_count_19 htab hlocks (by decide) (Nat.le_of_ble_eq_true rfl) (⟨rfl, inN_neg c_1⟩)
  · refine lv_iload_n hx hb dX3_count_4 rfl (lv_at hl 1 rfl) ?_
    refine lv_bipush (v := nI 10) hx hb dX3_count_5 (by decide) ?_
    refine lv_icmp_le (tgt := 20) hx hb dX3_count_7 (by decide) (fun c_7 => ?_) (fun c_7 => ?_)
    · have hin0 : inN p0 11 = true := inN_le c_1 c_7 (by omega)
      obtain ⟨j, hj, rfl⟩ := inN_ex hin0 (by omega)
      have htnj := tn_nI (j := j) (by omega)
      have hl : lv_has ls 2 [(0, .ref (ad 0)), (1, .int (nI j))] := hl
      refine lv_aload_n hx hb dX3_count_20 rfl (lv_at hl 0 rfl) ?_
      refine lv_iload_n hx hb dX3_count_21 rfl (lv_at hl 1 rfl) ?_
      refine m_callVi (As := [.int (nI j)]) (rest := []) ⟨hx, hb, hml, hown, hts⟩ hE hI (c_X3_counted k l ad N g _ uns play rd n lat gar T came mis lost bel fig fi u z F r j (by omega) hW hwf (by omega) hC (by omega)) (cwV 1 hts gX3_count_X3_counted rfl rfl rfl (by decide +kernel) ⟨Nat.le_of_ble_eq_true rfl, Nat.le_of_ble_eq_true rfl⟩) (i := 0) (by omega) h0 rfl rfl hl.1 rfl (Nat.le_of_ble_eq_true rfl) dX3_count_22 ⟨Nat.le_of_ble_eq_true rfl, Nat.le_of_ble_eq_true rfl⟩ (m_deti (fun H locs hI => ?_))
      refine vx_ret ?_
      refine W.widen (k := 1) (n := 6) (by omega) (by omega) ?_
      exact m_iret hx hb hr hlocks hI (⟨hin0, by rw [htnj], rfl⟩) dX3_count_25
    · exact m_throwS hx hb hst hown (cls := "java/lang/IndexOutOfBoundsException") (ik := 36) (is := 153) (ic := 40) x_fit36 (hts (.classLink RX3 36 "java/lang/IndexOutOfBoundsException") (by decide +kernel)) (hts (.initialized "java/lang/IndexOutOfBoundsException") (by decide +kernel)) (x_hat36 hE.1.2.2.2.2.2 (fun w h => hts w (List.mem_cons_of_mem _ (List.mem_append_right _ h)))) x_good36 (text := "nothing such is counted") (by decide) hE hI (by rw [hml]; exact hl.1) dX3_count_10 dX3_count_13 dX3_count_14 dX3_count_16 dX3_count_19 htab hlocks (by decide) (Nat.le_of_ble_eq_true rfl) (⟨rfl, inN_nle c_7 (by omega)⟩)
set_option maxHeartbeats 8000000 in
set_option maxRecDepth 100000 in
theorem c_X3_wrong (k : mC) (l : Launch) (ad : Nat → Nat) (N : Nat) (g : Nat → va_E) (sz : Nat) (uns : Bool) (play rd n : Nat) (lat : Nat → Int32) (gar T : Nat → Nat) (came : Nat) (mis lost bel : Int32) (fig : Bool) (fi u : Nat) (z : Nat → Nat) (F : Nat → Nat → Nat) (r : Nat → Option Nat)  (hN : 50 ≤ N) (hW : CW play rd n lat gar T) (hwf : cWf (fi, u, z, F)) (hcame : came < 2000000000) (hC : CR k ad g uns play rd n lat gar T (came, mis, lost, bel, fig, fi, u, z, F) r)  : mCi k l yX3_wrong wsX3_wrong { frames := 3, cells := 0, slots := 0, locals := 67 } ad N g sz [.ref (ad 0)] (fun r1 g1 => r1 = nI (wrN play lat gar T rd came (n - rd)) ∧ g1 = g) := by
  refine mOf (Qc := fun z9 => va_Qi (fun r1 g1 => r1 = nI (wrN play lat gar T rd came (n - rd)) ∧ g1 = g) (mB k ad N) (mA ad N z9)) (cc := cX3_wrong) (maxL := 4) (ret := (some .int)) (by decide) rfl (Nat.le_of_ble_eq_true rfl) ?_
  intro p e s m below meth c hx hb hr hts hown hlocks hml hin hE hI ls hl
  have hl : lv_has ls 4 [(0, .ref (ad 0))] := hl
  have h0 : g 0 = .inr (3, [.ref (ad 1), .ref (ad 6), .ref (ad 48), .int (nI rd), .int (bI fig), .int (bI uns), .int (nI came), .int mis, .int lost, .int bel]) := hC.1
  have hWi : CWi k ad g play lat gar := hC.2.1
  have hSh : CSh k ad g fi u z F r := hC.2.2.1
  have h48 : g 48 = .inr (0, [.ref (ad 49), .int (nI n)]) := hC.2.2.2.1
  have h49 : g 49 = .inl (k.2.1.1, 120, .inl (fun j => nI (T j))) := hC.2.2.2.2
  have hr48 : CRow k ad g 48 120 n (fun j => nI (T j)) := ⟨h48, h49⟩
  have h1 := hWi.1
  have h6 : g 6 = .inr (1, [.ref (ad 7), .int (nI fi), .int (nI u)]) := hSh.1
  obtain ⟨hplay, hrd, hn, hgar, hT, hlat⟩ := id hW
  have hfi : fi < 20 := hwf.1
  have hu0 : 0 < u := hwf.2.1
  have hu : u ≤ 20 := hwf.2.2
  refine lv_iconst (v := nI 0) hx hb dX3_wrong_0 (by decide) ?_
  refine lv_istore_n (lv' := [(1, .int (nI 0)), (0, .ref (ad 0))]) hx hb dX3_wrong_1 rfl hl (by decide) rfl (fun ls hl => ?_)
  refine lv_aload_n hx hb dX3_wrong_2 rfl (lv_at hl 1 rfl) ?_
  refine m_get (ci := 3) (C := RX3) (T := TX3) (N' := 10) hx hb hts (by decide +kernel) hown hE hI 0 (by omega) h0 rfl 3 (by decide) (hts (.fieldLink RX3 135 "TapePrinter" "reader" "I") (by decide +kernel)) rfl dX3_wrong_3 ?_
  refine lv_istore_n (lv' := [(2, .int (nI rd)), (1, .int (nI 0)), (0, .ref (ad 0))]) hx hb dX3_wrong_6 rfl hl (by decide) rfl (fun ls hl => ?_)
  refine m_loop (σ := Nat) (fun i => rd + i ≤ n) (fun i => n - i) (fun i => g) (fun i => [(0, .ref (ad 0)), (1, .int (nI (wrN play lat gar T rd came i))), (2, .int (nI (rd + i)))]) (nL := 4) 0 (show rd + 0 ≤ n by omega) hI (lv_sub hl [2, 1, 0] rfl) ?_
  rintro i hin1 ih7 H locs ls hI hl
  have hI : mI k ad N g (mA ad N s.heap.size) s H locs := hI
  have hl : lv_has ls 4 [(0, .ref (ad 0)), (1, .int (nI (wrN play lat gar T rd came i))), (2, .int (nI (rd + i)))] := hl
  have hwn := wrN_le play lat gar T rd came i
  refine lv_iload_n hx hb dX3_wrong_7 rfl (lv_at hl 2 rfl) ?_
  refine lv_aload_n hx hb dX3_wrong_8 rfl (lv_at hl 0 rfl) ?_
  refine m_get (ci := 3) (C := RX3) (T := TX3) (N' := 10) hx hb hts (by decide +kernel) hown hE hI 0 (by omega) h0 rfl 2 (by decide) (hts (.fieldLink RX3 28 "TapePrinter" "strip" "LTapePrinter$Row;") (by decide +kernel)) rfl dX3_wrong_9 ?_
  refine m_callVi (As := []) (rest := [.int (nI (rd + i))]) ⟨hx, hb, hml, hown, hts⟩ hE hI (c_X0_size k l ad N g _ 48 120 n (fun j => nI (T j))  (by omega) (by omega) (by omega) ⟨h48, h49⟩) (cwV 0 hts gX3_wrong_X0_size rfl rfl rfl (by decide +kernel) ⟨Nat.le_of_ble_eq_true rfl, Nat.le_of_ble_eq_true rfl⟩) (i := 48) (by omega) h48 rfl rfl hl.1 rfl (Nat.le_of_ble_eq_true rfl) dX3_wrong_12 ⟨Nat.le_of_ble_eq_true rfl, Nat.le_of_ble_eq_true rfl⟩ (m_deti (fun H locs hI => ?_))
  refine m_cgeN (tgt := 59) hx hb (by omega) (by omega) dX3_wrong_15 (by decide) (fun c_15 => ?_) (fun c_15 => ?_)
  · refine lv_iload_n hx hb dX3_wrong_59 rfl (lv_at hl 1 rfl) ?_
    exact m_iret hx hb hr hlocks hI (⟨by rw [show n - rd = i by omega], rfl⟩) dX3_wrong_60
  · refine lv_aload_n hx hb dX3_wrong_18 rfl (lv_at hl 0 rfl) ?_
    refine m_get (ci := 3) (C := RX3) (T := TX3) (N' := 10) hx hb hts (by decide +kernel) hown hE hI 0 (by omega) h0 rfl 2 (by decide) (hts (.fieldLink RX3 28 "TapePrinter" "strip" "LTapePrinter$Row;") (by decide +kernel)) rfl dX3_wrong_19 ?_
    refine lv_iload_n hx hb dX3_wrong_22 rfl (lv_at hl 2 rfl) ?_
    refine m_callVi (As := [.int (nI (rd + i))]) (rest := []) ⟨hx, hb, hml, hown, hts⟩ hE hI (c_X0_at k l ad N g _ 48 120 n (fun j => nI (T j)) (rd + i) (by omega) (by omega) (by omega) ⟨h48, h49⟩ (by omega)) (cwV 1 hts gX3_wrong_X0_at rfl rfl rfl (by decide +kernel) ⟨Nat.le_of_ble_eq_true rfl, Nat.le_of_ble_eq_true rfl⟩) (i := 48) (by omega) h48 rfl rfl hl.1 rfl (Nat.le_of_ble_eq_true rfl) dX3_wrong_23 ⟨Nat.le_of_ble_eq_true rfl, Nat.le_of_ble_eq_true rfl⟩ (m_deti (fun H locs hI => ?_))
    refine m_top (show (fun j => nI (T j)) (rd + i) = nI (T (rd + i)) from rfl) ?_
    have ht_1 := hT (rd + i)
    refine lv_istore_n (lv' := [(3, .int (nI (T (rd + i)))), (0, .ref (ad 0)), (1, .int (nI (wrN play lat gar T rd came i))), (2, .int (nI (rd + i)))]) hx hb dX3_wrong_26 rfl hl (by decide) rfl (fun ls hl => ?_)
    refine lv_aload_n hx hb dX3_wrong_27 rfl (lv_at hl 1 rfl) ?_
    refine m_get (ci := 3) (C := RX3) (T := TX3) (N' := 10) hx hb hts (by decide +kernel) hown hE hI 0 (by omega) h0 rfl 0 (by decide) (hts (.fieldLink RX3 10 "TapePrinter" "wire" "LTapePrinter$Wire;") (by decide +kernel)) rfl dX3_wrong_28 ?_
    refine lv_iload_n hx hb dX3_wrong_31 rfl (lv_at hl 0 rfl) ?_
    refine lv_aload_n hx hb dX3_wrong_32 rfl (lv_at hl 1 rfl) ?_
    refine m_get (ci := 3) (C := RX3) (T := TX3) (N' := 10) hx hb hts (by decide +kernel) hown hE hI 0 (by omega) h0 rfl 6 (by decide) (hts (.fieldLink RX3 158 "TapePrinter" "came" "I") (by decide +kernel)) rfl dX3_wrong_33 ?_
    refine lv_iload_n hx hb dX3_wrong_36 rfl (lv_at hl 3 rfl) ?_
    refine m_iaddN hx hb dX3_wrong_37 ?_
    refine lv_aload_n hx hb dX3_wrong_38 rfl (lv_at hl 1 rfl) ?_
    refine m_get (ci := 3) (C := RX3) (T := TX3) (N' := 10) hx hb hts (by decide +kernel) hown hE hI 0 (by omega) h0 rfl 3 (by decide) (hts (.fieldLink RX3 135 "TapePrinter" "reader" "I") (by decide +kernel)) rfl dX3_wrong_39 ?_
    refine m_isubN hx hb (by omega) dX3_wrong_42 ?_
    refine m_top (show nI ((came + (rd + i)) - rd) = nI (came + i) from by rw [show came + (rd + i) - rd = came + i by omega]) ?_
    have hrl := rdF_lt (play := play) (lt := lat ((came + i) % 16)) (hT (rd + i)) (hgar ((came + i) % 16) (Nat.mod_lt _ (by omega)))
    refine m_callVi (As := [.int (nI (T (rd + i))), .int (nI (came + i))]) (rest := []) ⟨hx, hb, hml, hown, hts⟩ hE hI (c_X2_readAs k l ad N g _ play lat gar (T (rd + i)) (came + i) (by omega) hWi (by omega) (by omega) hgar) (cwV 2 hts gX3_wrong_X2_readAs rfl rfl rfl (by decide +kernel) ⟨Nat.le_of_ble_eq_true rfl, Nat.le_of_ble_eq_true rfl⟩) (i := 1) (by omega) h1 rfl rfl hl.1 rfl (Nat.le_of_ble_eq_true rfl) dX3_wrong_43 ⟨Nat.le_of_ble_eq_true rfl, Nat.le_of_ble_eq_true rfl⟩ (m_deti (fun H locs hI => ?_))
    refine lv_iload_n hx hb dX3_wrong_46 rfl (lv_at hl 0 rfl) ?_
    refine m_ceqN (tgt := 53) hx hb (by omega) (by omega) dX3_wrong_47 (by decide) (fun c_47 => ?_) (fun c_47 => ?_)
    · have hdn : wrN play lat gar T rd came (i + 1) = wrN play lat gar T rd came i := by show (if rdF play (lat ((came + i) % 16)) (gar ((came + i) % 16)) (T (rd + i)) = T (rd + i) then wrN play lat gar T rd came i else wrN play lat gar T rd came i + 1) = _; rw [if_pos c_47]
      have hl : lv_has ls 4 [(3, .int (nI (T (rd + i)))), (0, .ref (ad 0)), (1, .int (nI (wrN play lat gar T rd came (i + 1)))), (2, .int (nI (rd + i)))] := by rw [hdn]; exact hl
      refine lv_iinc (v := nI ((rd + i) + 1)) (lv' := [(2, .int (nI ((rd + i) + 1))), (3, .int (nI (T (rd + i)))), (0, .ref (ad 0)), (1, .int (nI (wrN play lat gar T rd came (i + 1))))]) hx hb dX3_wrong_53 hl (k := 3) rfl (nI_add (rd + i) 1) (by decide) rfl (fun ls hl => ?_)
      refine lv_goto (tgt := 7) hx hb dX3_wrong_56 (by decide) ?_
      exact ih7 (i + 1) (show rd + (i + 1) ≤ n by omega) (show n - (i + 1) < n - i by omega) _ _ _ hI (lv_sub hl [2, 3, 0] rfl)
    · refine lv_iinc (v := nI ((wrN play lat gar T rd came i) + 1)) (lv' := [(1, .int (nI ((wrN play lat gar T rd came i) + 1))), (3, .int (nI (T (rd + i)))), (0, .ref (ad 0)), (2, .int (nI (rd + i)))]) hx hb dX3_wrong_50 hl (k := 2) rfl (nI_add (wrN play lat gar T rd came i) 1) (by decide) rfl (fun ls hl => ?_)
      have hdn : wrN play lat gar T rd came (i + 1) = (wrN play lat gar T rd came i) + 1 := by show (if rdF play (lat ((came + i) % 16)) (gar ((came + i) % 16)) (T (rd + i)) = T (rd + i) then wrN play lat gar T rd came i else wrN play lat gar T rd came i + 1) = _; rw [if_neg c_47]
      have hl : lv_has ls 4 [(1, .int (nI (wrN play lat gar T rd came (i + 1)))), (3, .int (nI (T (rd + i)))), (0, .ref (ad 0)), (2, .int (nI (rd + i)))] := by rw [hdn]; exact hl
      refine lv_iinc (v := nI ((rd + i) + 1)) (lv' := [(2, .int (nI ((rd + i) + 1))), (1, .int (nI (wrN play lat gar T rd came (i + 1)))), (3, .int (nI (T (rd + i)))), (0, .ref (ad 0))]) hx hb dX3_wrong_53 hl (k := 3) rfl (nI_add (rd + i) 1) (by decide) rfl (fun ls hl => ?_)
      refine lv_goto (tgt := 7) hx hb dX3_wrong_56 (by decide) ?_
      exact ih7 (i + 1) (show rd + (i + 1) ≤ n by omega) (show n - (i + 1) < n - i by omega) _ _ _ hI (lv_sub hl [3, 1, 0] rfl)
def mixI (d : Int64) (x : Int32) : Int64 := d * 31 + x.toInt64
/-- numbers mixed in, the first m of a row -/
def dg1 (f : Nat → Int32) (d : Int64) : Nat → Int64
  | 0 => d
  | m + 1 => mixI (dg1 f d m) (f m)
/-- two rows, side by side -/
def dg2 (f h : Nat → Int32) (d : Int64) : Nat → Int64
  | 0 => d
  | m + 1 => mixI (mixI (dg2 f h d m) (f m)) (h m)
/-- lines: each one's length, and its characters -/
def dg3 (zl : Nat → Nat) (pl : Nat → Nat → Int32) (d : Int64) : Nat → Int64
  | 0 => d
  | m + 1 => dg1 (pl m) (mixI (dg3 zl pl d m) (nI (zl m))) (zl m)
def dgA (cv : Nat → Int32) (lat gr : Nat → Int32) (u : Nat) (zl : Nat → Nat) (pl : Nat → Nat → Int32) (n : Nat) (tp : Nat → Int32) : Int64 :=
  dg1 tp (dg3 zl pl (dg2 lat gr (dg1 cv 1373 11) 16) u) n
theorem cWf_in {uns : Bool} {play : Nat} {lat : Nat → Int32} {gar : Nat → Nat} {co : Nat} {y : YT PC} (h : cWf y.2.2.2.2.2) : cWf (yIn cNl cFull cAdd uns play lat gar co y).2.2.2.2.2 := cWf_ob h
theorem cWf_run {uns : Bool} {play : Nat} {lat : Nat → Int32} {gar T : Nat → Nat} {rd : Nat} {y : YT PC} (h : cWf y.2.2.2.2.2) (m : Nat) : cWf (yRun cNl cFull cAdd uns play lat gar T rd y m).2.2.2.2.2 := by
  induction m with
  | zero => exact h
  | succ m ih => exact cWf_in ih
theorem CW.rd {play rd rd1 n : Nat} {lat : Nat → Int32} {gar T : Nat → Nat} (h : CW play rd n lat gar T) (h1 : rd1 ≤ n) : CW play rd1 n lat gar T := ⟨h.1, h1, h.2.2⟩
/-- the reader goes on -/
theorem CR.rd {k : mC} {ad : Nat → Nat} {g : Nat → va_E} {uns : Bool} {play rd n : Nat} {lat : Nat → Int32} {gar T : Nat → Nat} {y : YT PC} {r : Nat → Option Nat} (h : CR k ad g uns play rd n lat gar T y r) (rd1 : Nat) : CR k ad (va_up g 0 (.inr (3, [.ref (ad 1), .ref (ad 6), .ref (ad 48), .int (nI rd1), .int (bI y.2.2.2.2.1), .int (bI uns), .int (nI y.1), .int y.2.1, .int y.2.2.1, .int y.2.2.2.1]))) uns play rd1 n lat gar T y r :=
  ⟨va_up_self _ _ _, h.2.1.kept (fun i h1 h2 => va_up_ne _ _ (by omega)), h.2.2.1.kept (fun i h1 h2 => va_up_ne _ _ (by omega)), h.2.2.2.kept (va_up_ne _ _ (by omega)) (va_up_ne _ _ (by omega))⟩
set_option maxHeartbeats 8000000 in
set_option maxRecDepth 100000 in
theorem c_X3_run (k : mC) (l : Launch) (hst : l.stackTraces = false) (ad : Nat → Nat) (N : Nat) (g : Nat → va_E) (sz : Nat) (uns : Bool) (play rd n : Nat) (lat : Nat → Int32) (gar T : Nat → Nat) (came : Nat) (mis lost bel : Int32) (fig : Bool) (fi u : Nat) (z : Nat → Nat) (F : Nat → Nat → Nat) (r : Nat → Option Nat) (p0 : Int32) (hN : 50 ≤ N) (hW : CW play rd n lat gar T) (hwf : cWf (fi, u, z, F)) (hcame : came < 2000000000) (hC : CR k ad g uns play rd n lat gar T (came, mis, lost, bel, fig, fi, u, z, F) r)  : mXi k l yX3_run wsX3_run { frames := 6, cells := 1, slots := 6, locals := 107 } ad N g sz [.ref (ad 0), .int p0] (fun r1 g1 => in120 p0 = true ∧ r1 = nI (min (tn p0) (n - rd)) ∧ CR k ad g1 uns play (rd + min (tn p0) (n - rd)) n lat gar T (yRun cNl cFull cAdd uns play lat gar T rd (came, mis, lost, bel, fig, fi, u, z, F) (min (tn p0) (n - rd))) r ∧ ∀ i, 50 ≤ i → g1 i = g i) (fun E => E = "java/lang/IllegalArgumentException" ∧ in120 p0 = false) := by
  refine mOfX (cc := cX3_run) (maxL := 4) (ret := (some .int)) (by decide) rfl (Nat.le_of_ble_eq_true rfl) ?_
  intro p e s m below meth c hx hb hr hts hown hlocks hml htab hE hI ls hl
  have hl : lv_has ls 4 [(0, .ref (ad 0)), (1, .int p0)] := hl
  have h0 : g 0 = .inr (3, [.ref (ad 1), .ref (ad 6), .ref (ad 48), .int (nI rd), .int (bI fig), .int (bI uns), .int (nI came), .int mis, .int lost, .int bel]) := hC.1
  have hWi : CWi k ad g play lat gar := hC.2.1
  have hSh : CSh k ad g fi u z F r := hC.2.2.1
  have h48 : g 48 = .inr (0, [.ref (ad 49), .int (nI n)]) := hC.2.2.2.1
  have h49 : g 49 = .inl (k.2.1.1, 120, .inl (fun j => nI (T j))) := hC.2.2.2.2
  have hr48 : CRow k ad g 48 120 n (fun j => nI (T j)) := ⟨h48, h49⟩
  have h1 := hWi.1
  have h6 : g 6 = .inr (1, [.ref (ad 7), .int (nI fi), .int (nI u)]) := hSh.1
  obtain ⟨hplay, hrd, hn, hgar, hT, hlat⟩ := id hW
  have hfi : fi < 20 := hwf.1
  have hu0 : 0 < u := hwf.2.1
  have hu : u ≤ 20 := hwf.2.2
  refine lv_iload_n hx hb dX3_run_0 rfl (lv_at hl 1 rfl) ?_
  refine lv_iconst (v := nI 1) hx hb dX3_run_1 (by decide) ?_
  refine lv_icmp_lt (tgt := 11) hx hb dX3_run_2 (by decide) (fun c_2 => ?_) (fun c_2 => ?_)
  · exact m_throwS hx hb hst hown (cls := "java/lang/IllegalArgumentException") (ik := 67) (is := 133) (ic := 71) x_fit67 (hts (.classLink RX3 67 "java/lang/IllegalArgumentException") (by decide +kernel)) (hts (.initialized "java/lang/IllegalArgumentException") (by decide +kernel)) (x_hat67 hE.1.2.2.2.2.2 (fun w h => hts w (List.mem_cons_of_mem _ (List.mem_append_right _ h)))) x_good67 (text := "too few or too many") (by decide) hE hI (by rw [hml]; exact hl.1) dX3_run_11 dX3_run_14 dX3_run_15 dX3_run_17 dX3_run_20 htab hlocks (by decide) (Nat.le_of_ble_eq_true rfl) (⟨rfl, in120_lo c_2⟩)
  · refine lv_iload_n hx hb dX3_run_5 rfl (lv_at hl 1 rfl) ?_
    refine lv_bipush (v := nI 120) hx hb dX3_run_6 (by decide) ?_
    refine lv_icmp_le (tgt := 21) hx hb dX3_run_8 (by decide) (fun c_8 => ?_) (fun c_8 => ?_)
    · have hin0 : in120 p0 = true := in120_yes c_2 c_8
      obtain ⟨j, h1j, hj, rfl⟩ := in120_ex hin0
      have htnj := tn_nI (j := j) (by omega)
      have hl : lv_has ls 4 [(0, .ref (ad 0)), (1, .int (nI j))] := hl
      refine lv_iload_n hx hb dX3_run_21 rfl (lv_at hl 1 rfl) ?_
      refine lv_aload_n hx hb dX3_run_22 rfl (lv_at hl 0 rfl) ?_
      refine m_get (ci := 3) (C := RX3) (T := TX3) (N' := 10) hx hb hts (by decide +kernel) hown hE hI 0 (by omega) h0 rfl 2 (by decide) (hts (.fieldLink RX3 28 "TapePrinter" "strip" "LTapePrinter$Row;") (by decide +kernel)) rfl dX3_run_23 ?_
      refine m_callVi (As := []) (rest := [.int (nI j)]) ⟨hx, hb, hml, hown, hts⟩ hE hI (c_X0_size k l ad N g _ 48 120 n (fun j => nI (T j))  (by omega) (by omega) (by omega) ⟨h48, h49⟩) (cwV 0 hts gX3_run_X0_size rfl rfl rfl (by decide +kernel) ⟨Nat.le_of_ble_eq_true rfl, Nat.le_of_ble_eq_true rfl⟩) (i := 48) (by omega) h48 rfl rfl hl.1 rfl (Nat.le_of_ble_eq_true rfl) dX3_run_26 ⟨Nat.le_of_ble_eq_true rfl, Nat.le_of_ble_eq_true rfl⟩ (m_deti (fun H locs hI => ?_))
      refine lv_aload_n hx hb dX3_run_29 rfl (lv_at hl 0 rfl) ?_
      refine m_get (ci := 3) (C := RX3) (T := TX3) (N' := 10) hx hb hts (by decide +kernel) hown hE hI 0 (by omega) h0 rfl 3 (by decide) (hts (.fieldLink RX3 135 "TapePrinter" "reader" "I") (by decide +kernel)) rfl dX3_run_30 ?_
      refine m_isubN hx hb (by omega) dX3_run_33 ?_
      refine va_mmin hx hb (hml.trans hl.1.symm) hown (hts (.methodLink RX3 139 Lib.Math.min.name) (by decide +kernel)) (hts (.static Lib.Math.min.name) (by decide +kernel)) (hts (.initialized "java/lang/Math") (by decide +kernel)) (hts (.code Lib.Math.min.name Lib.Math.min.code 2 (some .int)) (by decide +kernel)) (Nat.le_of_ble_eq_true rfl) (Nat.le_of_ble_eq_true rfl) (Nat.zero_le _) (Nat.zero_le _) dX3_run_34 ?_
      refine m_top (min_nI (a := j) (b := n - rd) (by omega) (by omega)) ?_
      obtain ⟨mm, hmm⟩ : ∃ zz, zz = min j (n - rd) := ⟨_, rfl⟩
      rw [← hmm]
      have hmj : mm ≤ j := by omega
      have hmn : mm ≤ n - rd := by omega
      refine lv_istore_n (lv' := [(2, .int (nI mm)), (0, .ref (ad 0)), (1, .int (nI j))]) hx hb dX3_run_37 rfl hl (by decide) rfl (fun ls hl => ?_)
      refine lv_iconst (v := nI 0) hx hb dX3_run_38 (by decide) ?_
      refine lv_istore_n (lv' := [(3, .int (nI 0)), (2, .int (nI mm)), (0, .ref (ad 0)), (1, .int (nI j))]) hx hb dX3_run_39 rfl hl (by decide) rfl (fun ls hl => ?_)
      refine m_loop (σ := Nat × (Nat → va_E)) (fun ⟨i, gi⟩ => i ≤ mm ∧ CR k ad gi uns play (rd + i) n lat gar T (yRun cNl cFull cAdd uns play lat gar T rd (came, mis, lost, bel, fig, fi, u, z, F) i) r ∧ ∀ q, 50 ≤ q → gi q = g q) (fun ⟨i, gi⟩ => mm - i) (fun ⟨i, gi⟩ => gi) (fun ⟨i, gi⟩ => [(0, .ref (ad 0)), (1, .int (nI j)), (2, .int (nI mm)), (3, .int (nI i))]) (nL := 4) (0, g) ⟨Nat.zero_le _, hC, fun q _ => rfl⟩ hI (lv_sub hl [2, 3, 1, 0] rfl) ?_
      rintro ⟨i, gi⟩ ⟨him, hCi, hki⟩ ih40 H locs ls hI hl
      have hI : mI k ad N gi (mA ad N s.heap.size) s H locs := hI
      have hl : lv_has ls 4 [(0, .ref (ad 0)), (1, .int (nI j)), (2, .int (nI mm)), (3, .int (nI i))] := hl
      obtain ⟨g1, hg1⟩ : ∃ zz, zz = gi := ⟨_, rfl⟩
      replace hI : mI k ad N g1 (mA ad N s.heap.size) s H locs := by rw [hg1]; exact hI
      have hgi := hg1
      rw [← hg1] at hCi
      obtain ⟨yv, hyv⟩ : ∃ yv, yv = yRun cNl cFull cAdd uns play lat gar T rd (came, mis, lost, bel, fig, fi, u, z, F) i := ⟨_, rfl⟩
      have hy1 := yRun_1 (nl := cNl) (full := cFull) (add := cAdd) (uns := uns) (play := play) (lat := lat) (gar := gar) (T := T) (rd := rd) (y := (came, mis, lost, bel, fig, fi, u, z, F)) i
      have hwf1 := cWf_run (uns := uns) (play := play) (lat := lat) (gar := gar) (T := T) (rd := rd) (y := (came, mis, lost, bel, fig, fi, u, z, F)) hwf i
      have hCi9 := hCi
      rw [← hyv] at hy1 hwf1 hCi9
      obtain ⟨ca1, mi1, lo1, be1, fg1, fi1, u1, z1, F1⟩ := yv
      have hy2 : ca1 = came + i := hy1
      have hCj : CR k ad g1 uns play (rd + i) n lat gar T (ca1, mi1, lo1, be1, fg1, fi1, u1, z1, F1) r := hCi9
      have m0 : g1 0 = .inr (3, [.ref (ad 1), .ref (ad 6), .ref (ad 48), .int (nI (rd + i)), .int (bI fg1), .int (bI uns), .int (nI ca1), .int mi1, .int lo1, .int be1]) := hCj.1
      have m48 : g1 48 = .inr (0, [.ref (ad 49), .int (nI n)]) := hCj.2.2.2.1
      have m49 : g1 49 = .inl (k.2.1.1, 120, .inl (fun j => nI (T j))) := hCj.2.2.2.2
      refine lv_iload_n hx hb dX3_run_40 rfl (lv_at hl 3 rfl) ?_
      refine lv_iload_n hx hb dX3_run_41 rfl (lv_at hl 2 rfl) ?_
      refine m_cgeN (tgt := 77) hx hb (by omega) (by omega) dX3_run_42 (by decide) (fun c_42 => ?_) (fun c_42 => ?_)
      · refine lv_iload_n hx hb dX3_run_77 rfl (lv_at hl 2 rfl) ?_
        have him2 : i = mm := by omega
        subst him2
        refine vx_ret ?_
        refine W.widen (k := 1) (n := 6) (by omega) (by omega) ?_
        exact m_iret hx hb hr hlocks hI (⟨hin0, by rw [htnj, hmm], by rw [htnj, ← hmm]; exact hCi, fun q hq => by rw [hgi]; exact hki q hq⟩) dX3_run_78
      · refine lv_aload_n hx hb dX3_run_45 rfl (lv_at hl 0 rfl) ?_
        refine lv_aload_n hx hb dX3_run_46 rfl (lv_at hl 0 rfl) ?_
        refine m_get (ci := 3) (C := RX3) (T := TX3) (N' := 10) hx hb hts (by decide +kernel) hown hE hI 0 (by omega) m0 rfl 2 (by decide) (hts (.fieldLink RX3 28 "TapePrinter" "strip" "LTapePrinter$Row;") (by decide +kernel)) rfl dX3_run_47 ?_
        refine lv_aload_n hx hb dX3_run_50 rfl (lv_at hl 0 rfl) ?_
        refine m_get (ci := 3) (C := RX3) (T := TX3) (N' := 10) hx hb hts (by decide +kernel) hown hE hI 0 (by omega) m0 rfl 3 (by decide) (hts (.fieldLink RX3 135 "TapePrinter" "reader" "I") (by decide +kernel)) rfl dX3_run_51 ?_
        refine m_callVi (As := [.int (nI (rd + i))]) (rest := [.ref (ad 0)]) ⟨hx, hb, hml, hown, hts⟩ hE hI (c_X0_at k l ad N g1 _ 48 120 n (fun j => nI (T j)) (rd + i) (by omega) (by omega) (by omega) ⟨m48, m49⟩ (by omega)) (cwV 1 hts gX3_run_X0_at rfl rfl rfl (by decide +kernel) ⟨Nat.le_of_ble_eq_true rfl, Nat.le_of_ble_eq_true rfl⟩) (i := 48) (by omega) m48 rfl rfl hl.1 rfl (Nat.le_of_ble_eq_true rfl) dX3_run_54 ⟨Nat.le_of_ble_eq_true rfl, Nat.le_of_ble_eq_true rfl⟩ (m_deti (fun H locs hI => ?_))
        refine m_top (show (fun j => nI (T j)) (rd + i) = nI (T (rd + i)) from rfl) ?_
        have ht_1 := hT (rd + i)
        refine m_callVi (As := [.int (nI (T (rd + i)))]) (rest := []) ⟨hx, hb, hml, hown, hts⟩ hE hI (c_X3_takeIn k l ad N g1 _ uns play (rd + i) n lat gar T ca1 mi1 lo1 be1 fg1 fi1 u1 z1 F1 r (T (rd + i)) (by omega) (hW.rd (by omega)) hwf1 (by omega) hCj (hT _)) (cwV 1 hts gX3_run_X3_takeIn rfl rfl rfl (by decide +kernel) ⟨Nat.le_of_ble_eq_true rfl, Nat.le_of_ble_eq_true rfl⟩) (i := 0) (by omega) m0 rfl rfl hl.1 rfl (Nat.le_of_ble_eq_true rfl) dX3_run_57 ⟨Nat.le_of_ble_eq_true rfl, Nat.le_of_ble_eq_true rfl⟩ (fun r9 g9 H locs hp hI => ?_)
        obtain ⟨hrr, hC8, hk8⟩ := hp
        subst hrr
        have hyn : yIn cNl cFull cAdd uns play lat gar (T (rd + i)) (ca1, mi1, lo1, be1, fg1, fi1, u1, z1, F1) = yRun cNl cFull cAdd uns play lat gar T rd (came, mis, lost, bel, fig, fi, u, z, F) (i + 1) := by rw [hyv]; rfl
        rw [hyn] at hC8
        have hCi8 := hC8
        obtain ⟨yw, hyw⟩ : ∃ yw, yw = yRun cNl cFull cAdd uns play lat gar T rd (came, mis, lost, bel, fig, fi, u, z, F) (i + 1) := ⟨_, rfl⟩
        rw [← hyw] at hC8
        obtain ⟨ca2, mi2, lo2, be2, fg2, fi2, u2, z2, F2⟩ := yw
        have n0 : g9 0 = .inr (3, [.ref (ad 1), .ref (ad 6), .ref (ad 48), .int (nI (rd + i)), .int (bI fg2), .int (bI uns), .int (nI ca2), .int mi2, .int lo2, .int be2]) := hC8.1
        refine lv_pop hx hb dX3_run_60 rfl ?_
        refine lv_aload_n hx hb dX3_run_61 rfl (lv_at hl 0 rfl) ?_
        refine lv_dup hx hb dX3_run_62 rfl ?_
        refine m_get (ci := 3) (C := RX3) (T := TX3) (N' := 10) hx hb hts (by decide +kernel) hown hE hI 0 (by omega) n0 rfl 3 (by decide) (hts (.fieldLink RX3 135 "TapePrinter" "reader" "I") (by decide +kernel)) rfl dX3_run_63 ?_
        refine lv_iconst (v := nI 1) hx hb dX3_run_66 (by decide) ?_
        refine m_iaddN hx hb dX3_run_67 ?_
        refine m_put (ci := 3) (C := RX3) (T := TX3) (N' := 10) (ty := .int) hx hb hts (by decide +kernel) tyX3 tyX3_ok nmX3 hown hE hI 0 (by omega) n0 rfl 3 (by decide) (hts (.fieldLink RX3 135 "TapePrinter" "reader" "I") (by decide +kernel)) rfl (by decide +kernel) rfl rfl (Nat.le_of_ble_eq_true rfl) dX3_run_68 (fun H locs hI => ?_)
        obtain ⟨g2, hg2⟩ : ∃ zz, zz = va_up g9 0 (.inr (3, [.ref (ad 1), .ref (ad 6), .ref (ad 48), .int (nI ((rd + i) + 1)), .int (bI fg2), .int (bI uns), .int (nI ca2), .int mi2, .int lo2, .int be2])) := ⟨_, rfl⟩
        replace hI : mI k ad N g2 (mA ad N s.heap.size) s H locs := by rw [hg2]; exact hI
        have m_2 : g2 0 = .inr (3, [.ref (ad 1), .ref (ad 6), .ref (ad 48), .int (nI ((rd + i) + 1)), .int (bI fg2), .int (bI uns), .int (nI ca2), .int mi2, .int lo2, .int be2]) := by rw [hg2, va_up_self]
        refine lv_iinc (v := nI (i + 1)) (lv' := [(3, .int (nI (i + 1))), (0, .ref (ad 0)), (1, .int (nI j)), (2, .int (nI mm))]) hx hb dX3_run_71 hl (k := 3) rfl (nI_add i 1) (by decide) rfl (fun ls hl => ?_)
        refine lv_goto (tgt := 40) hx hb dX3_run_74 (by decide) ?_
        have hC7 : CR k ad g2 uns play (rd + (i + 1)) n lat gar T (ca2, mi2, lo2, be2, fg2, fi2, u2, z2, F2) r := by rw [hg2]; exact hC8.rd (rd + i + 1)
        rw [hyw] at hC7
        have hk7 : ∀ q, 50 ≤ q → g2 q = g q := fun q hq => by rw [hg2, va_up_ne _ _ (by omega), hk8 q hq, hgi]; exact hki q hq
        exact ih40 (i + 1, g2) ⟨by omega, hC7, hk7⟩ (show mm - (i + 1) < mm - i by omega) _ _ _ hI (lv_sub hl [1, 2, 3, 0] rfl)
    · exact m_throwS hx hb hst hown (cls := "java/lang/IllegalArgumentException") (ik := 67) (is := 133) (ic := 71) x_fit67 (hts (.classLink RX3 67 "java/lang/IllegalArgumentException") (by decide +kernel)) (hts (.initialized "java/lang/IllegalArgumentException") (by decide +kernel)) (x_hat67 hE.1.2.2.2.2.2 (fun w h => hts w (List.mem_cons_of_mem _ (List.mem_append_right _ h)))) x_good67 (text := "too few or too many") (by decide) hE hI (by rw [hml]; exact hl.1) dX3_run_11 dX3_run_14 dX3_run_15 dX3_run_17 dX3_run_20 htab hlocks (by decide) (Nat.le_of_ble_eq_true rfl) (⟨rfl, in120_hi c_8⟩)
