set_option maxHeartbeats 8000000 in
set_option maxRecDepth 100000 in
theorem c_X4_thrown (k : mC) (l : Launch) (ad : Nat → Nat) (N : Nat) (g : Nat → va_E) (sz : Nat) (th : Nat) (uns : Bool) (play rd n : Nat) (lat : Nat → Int32) (gar T : Nat → Nat) (came : Nat) (mis lost bel : Int32) (fig : Bool) (u : Nat) (ln pg : Nat → Nat)  (hN : 56 ≤ N) (hW : CW play rd n lat gar T) (hwf : mWf (u, ln, pg)) (hcame : came < 2147483648) (hM0 : MR k ad g th uns play rd n lat gar T (came, mis, lost, bel, fig, u, ln, pg))  : mCi k l yX4_thrown wsX4_thrown { frames := 0, cells := 0, slots := 0, locals := 0 } ad N g sz [.ref (ad 50)] (fun r1 g1 => r1 = nI th ∧ g1 = g) := by
  refine mOf (Qc := fun z9 => va_Qi (fun r1 g1 => r1 = nI th ∧ g1 = g) (mB k ad N) (mA ad N z9)) (cc := cX4_thrown) (maxL := 1) (ret := (some .int)) (by decide) rfl (Nat.le_of_ble_eq_true rfl) ?_
  intro p e s m below meth c hx hb hr hts hown hlocks hml hin hE hI ls hl
  have hl : lv_has ls 1 [(0, .ref (ad 50))] := hl
  have h50 : g 50 = .inr (4, [.int (nI th), .int (bI fig), .int (bI uns), .int (nI play), .int (nI u), .ref (ad 51), .ref (ad 52), .ref (ad 53), .ref (ad 54), .ref (ad 55), .int (nI n), .int (nI rd), .int (nI came), .int mis, .int lost, .int bel]) := hM0.1
  have h51 : g 51 = .inl (k.2.1.1, 20, .inl (fun j => nI (ln j))) := hM0.2.1
  have h52 : g 52 = .inl (k.2.1.1, 800, .inl (fun j => nI (pg j))) := hM0.2.2.1
  have h53 : g 53 = .inl (k.2.1.1, 16, .inl lat) := hM0.2.2.2.1
  have h54 : g 54 = .inl (k.2.1.1, 16, .inl (fun j => nI (gar j))) := hM0.2.2.2.2.1
  have h55 : g 55 = .inl (k.2.1.1, 120, .inl (fun j => nI (T j))) := hM0.2.2.2.2.2
  obtain ⟨hplay, hrd, hn, hgar, hT, hlat⟩ := id hW
  have hu0 : 0 < u := hwf.1
  have hu : u ≤ 20 := hwf.2.1
  have hln : ∀ j, j < 20 → ln j ≤ 40 := hwf.2.2
  refine lv_aload_n hx hb dX4_thrown_0 rfl (lv_at hl 0 rfl) ?_
  refine m_get (ci := 4) (C := RX4) (T := TX4) (N' := 16) hx hb hts (by decide +kernel) hown hE hI 50 (by omega) h50 rfl 0 (by decide) (hts (.fieldLink RX4 29 "TapePrinterModel" "thrown" "I") (by decide +kernel)) rfl dX4_thrown_1 ?_
  exact m_iret hx hb hr hlocks hI (⟨rfl, rfl⟩) dX4_thrown_4
set_option maxHeartbeats 8000000 in
set_option maxRecDepth 100000 in
theorem c_X4_fail (k : mC) (l : Launch) (ad : Nat → Nat) (N : Nat) (g : Nat → va_E) (sz : Nat) (th : Nat) (uns : Bool) (play rd n : Nat) (lat : Nat → Int32) (gar T : Nat → Nat) (came : Nat) (mis lost bel : Int32) (fig : Bool) (u : Nat) (ln pg : Nat → Nat) (v : Nat) (hN : 56 ≤ N) (hW : CW play rd n lat gar T) (hwf : mWf (u, ln, pg)) (hcame : came < 2147483648) (hM0 : MR k ad g th uns play rd n lat gar T (came, mis, lost, bel, fig, u, ln, pg))  : mCi k l yX4_fail wsX4_fail { frames := 0, cells := 0, slots := 0, locals := 0 } ad N g sz [.ref (ad 50), .int (nI v)] (fun r1 g1 => r1 = nI 0 ∧ g1 = va_up g 50 (.inr (4, [.int (nI v), .int (bI fig), .int (bI uns), .int (nI play), .int (nI u), .ref (ad 51), .ref (ad 52), .ref (ad 53), .ref (ad 54), .ref (ad 55), .int (nI n), .int (nI rd), .int (nI came), .int mis, .int lost, .int bel]))) := by
  refine mOf (Qc := fun z9 => va_Qi (fun r1 g1 => r1 = nI 0 ∧ g1 = va_up g 50 (.inr (4, [.int (nI v), .int (bI fig), .int (bI uns), .int (nI play), .int (nI u), .ref (ad 51), .ref (ad 52), .ref (ad 53), .ref (ad 54), .ref (ad 55), .int (nI n), .int (nI rd), .int (nI came), .int mis, .int lost, .int bel]))) (mB k ad N) (mA ad N z9)) (cc := cX4_fail) (maxL := 2) (ret := (some .int)) (by decide) rfl (Nat.le_of_ble_eq_true rfl) ?_
  intro p e s m below meth c hx hb hr hts hown hlocks hml hin hE hI ls hl
  have hl : lv_has ls 2 [(0, .ref (ad 50)), (1, .int (nI v))] := hl
  have h50 : g 50 = .inr (4, [.int (nI th), .int (bI fig), .int (bI uns), .int (nI play), .int (nI u), .ref (ad 51), .ref (ad 52), .ref (ad 53), .ref (ad 54), .ref (ad 55), .int (nI n), .int (nI rd), .int (nI came), .int mis, .int lost, .int bel]) := hM0.1
  have h51 : g 51 = .inl (k.2.1.1, 20, .inl (fun j => nI (ln j))) := hM0.2.1
  have h52 : g 52 = .inl (k.2.1.1, 800, .inl (fun j => nI (pg j))) := hM0.2.2.1
  have h53 : g 53 = .inl (k.2.1.1, 16, .inl lat) := hM0.2.2.2.1
  have h54 : g 54 = .inl (k.2.1.1, 16, .inl (fun j => nI (gar j))) := hM0.2.2.2.2.1
  have h55 : g 55 = .inl (k.2.1.1, 120, .inl (fun j => nI (T j))) := hM0.2.2.2.2.2
  obtain ⟨hplay, hrd, hn, hgar, hT, hlat⟩ := id hW
  have hu0 : 0 < u := hwf.1
  have hu : u ≤ 20 := hwf.2.1
  have hln : ∀ j, j < 20 → ln j ≤ 40 := hwf.2.2
  refine lv_aload_n hx hb dX4_fail_0 rfl (lv_at hl 0 rfl) ?_
  refine lv_iload_n hx hb dX4_fail_1 rfl (lv_at hl 1 rfl) ?_
  refine m_put (ci := 4) (C := RX4) (T := TX4) (N' := 16) (ty := .int) hx hb hts (by decide +kernel) tyX4 tyX4_ok nmX4 hown hE hI 50 (by omega) h50 rfl 0 (by decide) (hts (.fieldLink RX4 29 "TapePrinterModel" "thrown" "I") (by decide +kernel)) rfl (by decide +kernel) rfl rfl (Nat.le_of_ble_eq_true rfl) dX4_fail_2 (fun H locs hI => ?_)
  obtain ⟨g1, hg1⟩ : ∃ zz, zz = va_up g 50 (.inr (4, [.int (nI v), .int (bI fig), .int (bI uns), .int (nI play), .int (nI u), .ref (ad 51), .ref (ad 52), .ref (ad 53), .ref (ad 54), .ref (ad 55), .int (nI n), .int (nI rd), .int (nI came), .int mis, .int lost, .int bel])) := ⟨_, rfl⟩
  replace hI : mI k ad N g1 (mA ad N s.heap.size) s H locs := by rw [hg1]; exact hI
  have m_1 : g1 50 = .inr (4, [.int (nI v), .int (bI fig), .int (bI uns), .int (nI play), .int (nI u), .ref (ad 51), .ref (ad 52), .ref (ad 53), .ref (ad 54), .ref (ad 55), .int (nI n), .int (nI rd), .int (nI came), .int mis, .int lost, .int bel]) := by rw [hg1, va_up_self]
  have m_2 : g1 51 = .inl (k.2.1.1, 20, .inl (fun j => nI (ln j))) := by rw [hg1, va_up_ne _ _ (by omega)]; exact h51
  have m_3 : g1 52 = .inl (k.2.1.1, 800, .inl (fun j => nI (pg j))) := by rw [hg1, va_up_ne _ _ (by omega)]; exact h52
  have m_4 : g1 53 = .inl (k.2.1.1, 16, .inl lat) := by rw [hg1, va_up_ne _ _ (by omega)]; exact h53
  have m_5 : g1 54 = .inl (k.2.1.1, 16, .inl (fun j => nI (gar j))) := by rw [hg1, va_up_ne _ _ (by omega)]; exact h54
  have m_6 : g1 55 = .inl (k.2.1.1, 120, .inl (fun j => nI (T j))) := by rw [hg1, va_up_ne _ _ (by omega)]; exact h55
  refine lv_iconst (v := nI 0) hx hb dX4_fail_5 (by decide) ?_
  exact m_iret hx hb hr hlocks hI (⟨rfl, hg1⟩) dX4_fail_6
set_option maxHeartbeats 8000000 in
set_option maxRecDepth 100000 in
theorem c_X4_shift (k : mC) (l : Launch) (ad : Nat → Nat) (N : Nat) (g : Nat → va_E) (sz : Nat) (th : Nat) (uns : Bool) (play rd n : Nat) (lat : Nat → Int32) (gar T : Nat → Nat) (came : Nat) (mis lost bel : Int32) (fig : Bool) (u : Nat) (ln pg : Nat → Nat) (b : Bool) (x : Nat) (hN : 56 ≤ N) (hW : CW play rd n lat gar T) (hwf : mWf (u, ln, pg)) (hcame : came < 2147483648) (hM0 : MR k ad g th uns play rd n lat gar T (came, mis, lost, bel, fig, u, ln, pg)) (hx32 : x < 32) : mCi k l yX4_shift wsX4_shift { frames := 0, cells := 0, slots := 0, locals := 0 } ad N g sz [.ref (ad 50), .int (bI b), .int (nI x)] (fun r1 g1 => r1 = bI (fb uns x b) ∧ g1 = g) := by
  refine mOf (Qc := fun z9 => va_Qi (fun r1 g1 => r1 = bI (fb uns x b) ∧ g1 = g) (mB k ad N) (mA ad N z9)) (cc := cX4_shift) (maxL := 3) (ret := (some .boolean)) (by decide) rfl (Nat.le_of_ble_eq_true rfl) ?_
  intro p e s m below meth c hx hb hr hts hown hlocks hml hin hE hI ls hl
  have hl : lv_has ls 3 [(0, .ref (ad 50)), (1, .int (bI b)), (2, .int (nI x))] := hl
  have h50 : g 50 = .inr (4, [.int (nI th), .int (bI fig), .int (bI uns), .int (nI play), .int (nI u), .ref (ad 51), .ref (ad 52), .ref (ad 53), .ref (ad 54), .ref (ad 55), .int (nI n), .int (nI rd), .int (nI came), .int mis, .int lost, .int bel]) := hM0.1
  have h51 : g 51 = .inl (k.2.1.1, 20, .inl (fun j => nI (ln j))) := hM0.2.1
  have h52 : g 52 = .inl (k.2.1.1, 800, .inl (fun j => nI (pg j))) := hM0.2.2.1
  have h53 : g 53 = .inl (k.2.1.1, 16, .inl lat) := hM0.2.2.2.1
  have h54 : g 54 = .inl (k.2.1.1, 16, .inl (fun j => nI (gar j))) := hM0.2.2.2.2.1
  have h55 : g 55 = .inl (k.2.1.1, 120, .inl (fun j => nI (T j))) := hM0.2.2.2.2.2
  obtain ⟨hplay, hrd, hn, hgar, hT, hlat⟩ := id hW
  have hu0 : 0 < u := hwf.1
  have hu : u ≤ 20 := hwf.2.1
  have hln : ∀ j, j < 20 → ln j ≤ 40 := hwf.2.2
  refine lv_iload_n hx hb dX4_shift_0 rfl (lv_at hl 2 rfl) ?_
  refine lv_bipush (v := nI 27) hx hb dX4_shift_1 (by decide) ?_
  refine m_cneN (tgt := 8) hx hb (by omega) (by omega) dX4_shift_3 (by decide) (fun c_3 => ?_) (fun c_3 => ?_)
  · refine lv_iload_n hx hb dX4_shift_8 rfl (lv_at hl 1 rfl) ?_
    refine m_zeqB (tgt := 39) hx hb dX4_shift_9 (by decide) (fun c_9 => ?_) (fun c_9 => ?_)
    · refine lv_iconst (v := nI 0) hx hb dX4_shift_39 (by decide) ?_
      refine m_top (y := bI false) (by decide) ?_
      exact m_zret (v := false) hx hb hr hlocks hI (⟨by unfold fb; rw [decide_eq_false c_3, c_9] <;> rfl, rfl⟩) dX4_shift_40
    · refine lv_iload_n hx hb dX4_shift_12 rfl (lv_at hl 2 rfl) ?_
      refine lv_bipush (v := nI 31) hx hb dX4_shift_13 (by decide) ?_
      refine m_ceqN (tgt := 39) hx hb (by omega) (by omega) dX4_shift_15 (by decide) (fun c_15 => ?_) (fun c_15 => ?_)
      · refine lv_iconst (v := nI 0) hx hb dX4_shift_39 (by decide) ?_
        refine m_top (y := bI false) (by decide) ?_
        exact m_zret (v := false) hx hb hr hlocks hI (⟨by unfold fb stl; rw [c_15, Bool.and_comm] <;> rfl, rfl⟩) dX4_shift_40
      · refine lv_iload_n hx hb dX4_shift_18 rfl (lv_at hl 2 rfl) ?_
        refine lv_iconst (v := nI 2) hx hb dX4_shift_19 (by decide) ?_
        refine m_ceqN (tgt := 39) hx hb (by omega) (by omega) dX4_shift_20 (by decide) (fun c_20 => ?_) (fun c_20 => ?_)
        · refine lv_iconst (v := nI 0) hx hb dX4_shift_39 (by decide) ?_
          refine m_top (y := bI false) (by decide) ?_
          exact m_zret (v := false) hx hb hr hlocks hI (⟨by unfold fb stl; rw [c_20, Bool.and_comm] <;> rfl, rfl⟩) dX4_shift_40
        · refine lv_iload_n hx hb dX4_shift_23 rfl (lv_at hl 2 rfl) ?_
          refine lv_iconst (v := nI 4) hx hb dX4_shift_24 (by decide) ?_
          refine m_cneN (tgt := 35) hx hb (by omega) (by omega) dX4_shift_25 (by decide) (fun c_25 => ?_) (fun c_25 => ?_)
          · refine lv_iconst (v := nI 1) hx hb dX4_shift_35 (by decide) ?_
            refine lv_goto (tgt := 40) hx hb dX4_shift_36 (by decide) ?_
            refine m_top (y := bI true) (by decide) ?_
            exact m_zret (v := true) hx hb hr hlocks hI (⟨by unfold fb stl; rw [decide_eq_false c_3, c_9, decide_eq_false c_15, decide_eq_false c_20, decide_eq_false c_25, Bool.and_false] <;> rfl, rfl⟩) dX4_shift_40
          · refine lv_aload_n hx hb dX4_shift_28 rfl (lv_at hl 0 rfl) ?_
            refine m_get (ci := 4) (C := RX4) (T := TX4) (N' := 16) hx hb hts (by decide +kernel) hown hE hI 50 (by omega) h50 rfl 2 (by decide) (hts (.fieldLink RX4 67 "TapePrinterModel" "unshifts" "Z") (by decide +kernel)) rfl dX4_shift_29 ?_
            refine m_zneB (tgt := 39) hx hb dX4_shift_32 (by decide) (fun c_32 => ?_) (fun c_32 => ?_)
            · refine lv_iconst (v := nI 0) hx hb dX4_shift_39 (by decide) ?_
              refine m_top (y := bI false) (by decide) ?_
              exact m_zret (v := false) hx hb hr hlocks hI (⟨by unfold fb stl; rw [c_32, c_25, Bool.and_comm] <;> rfl, rfl⟩) dX4_shift_40
            · refine lv_iconst (v := nI 1) hx hb dX4_shift_35 (by decide) ?_
              refine lv_goto (tgt := 40) hx hb dX4_shift_36 (by decide) ?_
              refine m_top (y := bI true) (by decide) ?_
              exact m_zret (v := true) hx hb hr hlocks hI (⟨by unfold fb stl; rw [c_32, c_9, decide_eq_false c_3, decide_eq_false c_15, decide_eq_false c_20] <;> rfl, rfl⟩) dX4_shift_40
  · refine lv_iconst (v := nI 1) hx hb dX4_shift_6 (by decide) ?_
    refine m_top (y := bI true) (by decide) ?_
    exact m_zret (v := true) hx hb hr hlocks hI (⟨by rw [c_3]; rfl, rfl⟩) dX4_shift_7
set_option maxHeartbeats 8000000 in
set_option maxRecDepth 100000 in
theorem c_X4_set (k : mC) (l : Launch) (ad : Nat → Nat) (N : Nat) (g : Nat → va_E) (sz : Nat) (th : Nat) (uns : Bool) (play rd n : Nat) (lat : Nat → Int32) (gar T : Nat → Nat) (came : Nat) (mis lost bel : Int32) (fig : Bool) (u : Nat) (ln pg : Nat → Nat) (ch : Nat) (hN : 56 ≤ N) (hW : CW play rd n lat gar T) (hwf : mWf (u, ln, pg)) (hcame : came < 2147483648) (hM0 : MR k ad g th uns play rd n lat gar T (came, mis, lost, bel, fig, u, ln, pg))  : mCv k l yX4_set wsX4_set { frames := 0, cells := 0, slots := 0, locals := 0 } ad N g sz [.ref (ad 50), .int (nI ch)] (fun g1 => (mFull (u, ln, pg) = true ∧ MR k ad g1 th uns play rd n lat gar T (came, mis, lost + 1, bel, fig, u, ln, pg) ∧ ∀ i, (i < 50 ∨ 56 ≤ i) → g1 i = g i) ∨ (mFull (u, ln, pg) = false ∧ MR k ad g1 th uns play rd n lat gar T (came, mis, lost, bel, fig, mAdd (u, ln, pg) ch) ∧ ∀ i, (i < 50 ∨ 56 ≤ i) → g1 i = g i)) := by
  refine mOf (Qc := fun z9 => va_Qv (fun g1 => (mFull (u, ln, pg) = true ∧ MR k ad g1 th uns play rd n lat gar T (came, mis, lost + 1, bel, fig, u, ln, pg) ∧ ∀ i, (i < 50 ∨ 56 ≤ i) → g1 i = g i) ∨ (mFull (u, ln, pg) = false ∧ MR k ad g1 th uns play rd n lat gar T (came, mis, lost, bel, fig, mAdd (u, ln, pg) ch) ∧ ∀ i, (i < 50 ∨ 56 ≤ i) → g1 i = g i)) (mB k ad N) (mA ad N z9)) (cc := cX4_set) (maxL := 2) (ret := none) (by decide) rfl (Nat.le_of_ble_eq_true rfl) ?_
  intro p e s m below meth c hx hb hr hts hown hlocks hml hin hE hI ls hl
  have hl : lv_has ls 2 [(0, .ref (ad 50)), (1, .int (nI ch))] := hl
  have h50 : g 50 = .inr (4, [.int (nI th), .int (bI fig), .int (bI uns), .int (nI play), .int (nI u), .ref (ad 51), .ref (ad 52), .ref (ad 53), .ref (ad 54), .ref (ad 55), .int (nI n), .int (nI rd), .int (nI came), .int mis, .int lost, .int bel]) := hM0.1
  have h51 : g 51 = .inl (k.2.1.1, 20, .inl (fun j => nI (ln j))) := hM0.2.1
  have h52 : g 52 = .inl (k.2.1.1, 800, .inl (fun j => nI (pg j))) := hM0.2.2.1
  have h53 : g 53 = .inl (k.2.1.1, 16, .inl lat) := hM0.2.2.2.1
  have h54 : g 54 = .inl (k.2.1.1, 16, .inl (fun j => nI (gar j))) := hM0.2.2.2.2.1
  have h55 : g 55 = .inl (k.2.1.1, 120, .inl (fun j => nI (T j))) := hM0.2.2.2.2.2
  obtain ⟨hplay, hrd, hn, hgar, hT, hlat⟩ := id hW
  have hu0 : 0 < u := hwf.1
  have hu : u ≤ 20 := hwf.2.1
  have hln : ∀ j, j < 20 → ln j ≤ 40 := hwf.2.2
  have hl1 := hln (u - 1) (by omega)
  refine lv_aload_n hx hb dX4_set_0 rfl (lv_at hl 0 rfl) ?_
  refine m_get (ci := 4) (C := RX4) (T := TX4) (N' := 16) hx hb hts (by decide +kernel) hown hE hI 50 (by omega) h50 rfl 5 (by decide) (hts (.fieldLink RX4 13 "TapePrinterModel" "longs" "[I") (by decide +kernel)) rfl dX4_set_1 ?_
  refine lv_aload_n hx hb dX4_set_4 rfl (lv_at hl 0 rfl) ?_
  refine m_get (ci := 4) (C := RX4) (T := TX4) (N' := 16) hx hb hts (by decide +kernel) hown hE hI 50 (by omega) h50 rfl 4 (by decide) (hts (.fieldLink RX4 7 "TapePrinterModel" "lines" "I") (by decide +kernel)) rfl dX4_set_5 ?_
  refine lv_iconst (v := nI 1) hx hb dX4_set_8 (by decide) ?_
  refine m_isubN hx hb (by omega) dX4_set_9 ?_
  refine m_iald hx hb hE hI 51 (by omega) (j := u - 1) h51 (by omega) (by omega) dX4_set_10 ?_
  refine m_top (show (fun j => nI (ln j)) (u - 1) = nI (ln (u - 1)) from rfl) ?_
  refine lv_bipush (v := nI 40) hx hb dX4_set_11 (by decide) ?_
  refine m_cneN (tgt := 27) hx hb (by omega) (by omega) dX4_set_13 (by decide) (fun c_13 => ?_) (fun c_13 => ?_)
  · refine lv_aload_n hx hb dX4_set_27 rfl (lv_at hl 0 rfl) ?_
    refine m_get (ci := 4) (C := RX4) (T := TX4) (N' := 16) hx hb hts (by decide +kernel) hown hE hI 50 (by omega) h50 rfl 6 (by decide) (hts (.fieldLink RX4 17 "TapePrinterModel" "page" "[I") (by decide +kernel)) rfl dX4_set_28 ?_
    refine lv_bipush (v := nI 40) hx hb dX4_set_31 (by decide) ?_
    refine lv_aload_n hx hb dX4_set_33 rfl (lv_at hl 0 rfl) ?_
    refine m_get (ci := 4) (C := RX4) (T := TX4) (N' := 16) hx hb hts (by decide +kernel) hown hE hI 50 (by omega) h50 rfl 4 (by decide) (hts (.fieldLink RX4 7 "TapePrinterModel" "lines" "I") (by decide +kernel)) rfl dX4_set_34 ?_
    refine lv_iconst (v := nI 1) hx hb dX4_set_37 (by decide) ?_
    refine m_isubN hx hb (by omega) dX4_set_38 ?_
    refine m_imulN hx hb dX4_set_39 ?_
    refine lv_aload_n hx hb dX4_set_40 rfl (lv_at hl 0 rfl) ?_
    refine m_get (ci := 4) (C := RX4) (T := TX4) (N' := 16) hx hb hts (by decide +kernel) hown hE hI 50 (by omega) h50 rfl 5 (by decide) (hts (.fieldLink RX4 13 "TapePrinterModel" "longs" "[I") (by decide +kernel)) rfl dX4_set_41 ?_
    refine lv_aload_n hx hb dX4_set_44 rfl (lv_at hl 0 rfl) ?_
    refine m_get (ci := 4) (C := RX4) (T := TX4) (N' := 16) hx hb hts (by decide +kernel) hown hE hI 50 (by omega) h50 rfl 4 (by decide) (hts (.fieldLink RX4 7 "TapePrinterModel" "lines" "I") (by decide +kernel)) rfl dX4_set_45 ?_
    refine lv_iconst (v := nI 1) hx hb dX4_set_48 (by decide) ?_
    refine m_isubN hx hb (by omega) dX4_set_49 ?_
    refine m_iald hx hb hE hI 51 (by omega) (j := u - 1) h51 (by omega) (by omega) dX4_set_50 ?_
    refine m_top (show (fun j => nI (ln j)) (u - 1) = nI (ln (u - 1)) from rfl) ?_
    refine m_iaddN hx hb dX4_set_51 ?_
    refine lv_iload_n hx hb dX4_set_52 rfl (lv_at hl 1 rfl) ?_
    refine m_iast hx hb hE hI 52 (by omega) (j := (40 * (u - 1)) + (ln (u - 1))) h52 (by omega) (by omega) dX4_set_53 (fun H locs hI => ?_)
    obtain ⟨g1, hg1⟩ : ∃ zz, zz = va_up g 52 (.inl (k.2.1.1, 800, .inl (upd (fun j => nI (pg j)) ((40 * (u - 1)) + (ln (u - 1))) (nI ch)))) := ⟨_, rfl⟩
    replace hI : mI k ad N g1 (mA ad N s.heap.size) s H locs := by rw [hg1]; exact hI
    have m_1 : g1 50 = .inr (4, [.int (nI th), .int (bI fig), .int (bI uns), .int (nI play), .int (nI u), .ref (ad 51), .ref (ad 52), .ref (ad 53), .ref (ad 54), .ref (ad 55), .int (nI n), .int (nI rd), .int (nI came), .int mis, .int lost, .int bel]) := by rw [hg1, va_up_ne _ _ (by omega)]; exact h50
    have m_2 : g1 51 = .inl (k.2.1.1, 20, .inl (fun j => nI (ln j))) := by rw [hg1, va_up_ne _ _ (by omega)]; exact h51
    have m_3 : g1 52 = .inl (k.2.1.1, 800, .inl (upd (fun j => nI (pg j)) ((40 * (u - 1)) + (ln (u - 1))) (nI ch))) := by rw [hg1, va_up_self]
    have m_4 : g1 53 = .inl (k.2.1.1, 16, .inl lat) := by rw [hg1, va_up_ne _ _ (by omega)]; exact h53
    have m_5 : g1 54 = .inl (k.2.1.1, 16, .inl (fun j => nI (gar j))) := by rw [hg1, va_up_ne _ _ (by omega)]; exact h54
    have m_6 : g1 55 = .inl (k.2.1.1, 120, .inl (fun j => nI (T j))) := by rw [hg1, va_up_ne _ _ (by omega)]; exact h55
    refine lv_aload_n hx hb dX4_set_54 rfl (lv_at hl 0 rfl) ?_
    refine m_get (ci := 4) (C := RX4) (T := TX4) (N' := 16) hx hb hts (by decide +kernel) hown hE hI 50 (by omega) m_1 rfl 5 (by decide) (hts (.fieldLink RX4 13 "TapePrinterModel" "longs" "[I") (by decide +kernel)) rfl dX4_set_55 ?_
    refine lv_aload_n hx hb dX4_set_58 rfl (lv_at hl 0 rfl) ?_
    refine m_get (ci := 4) (C := RX4) (T := TX4) (N' := 16) hx hb hts (by decide +kernel) hown hE hI 50 (by omega) m_1 rfl 4 (by decide) (hts (.fieldLink RX4 7 "TapePrinterModel" "lines" "I") (by decide +kernel)) rfl dX4_set_59 ?_
    refine lv_iconst (v := nI 1) hx hb dX4_set_62 (by decide) ?_
    refine m_isubN hx hb (by omega) dX4_set_63 ?_
    refine lv_dup2_11 hx hb dX4_set_64 rfl rfl ?_
    refine m_iald hx hb hE hI 51 (by omega) (j := u - 1) m_2 (by omega) (by omega) dX4_set_65 ?_
    refine m_top (show (fun j => nI (ln j)) (u - 1) = nI (ln (u - 1)) from rfl) ?_
    refine lv_iconst (v := nI 1) hx hb dX4_set_66 (by decide) ?_
    refine m_iaddN hx hb dX4_set_67 ?_
    refine m_iast hx hb hE hI 51 (by omega) (j := u - 1) m_2 (by omega) (by omega) dX4_set_68 (fun H locs hI => ?_)
    obtain ⟨g2, hg2⟩ : ∃ zz, zz = va_up g1 51 (.inl (k.2.1.1, 20, .inl (upd (fun j => nI (ln j)) (u - 1) (nI ((ln (u - 1)) + 1))))) := ⟨_, rfl⟩
    replace hI : mI k ad N g2 (mA ad N s.heap.size) s H locs := by rw [hg2]; exact hI
    have m_7 : g2 50 = .inr (4, [.int (nI th), .int (bI fig), .int (bI uns), .int (nI play), .int (nI u), .ref (ad 51), .ref (ad 52), .ref (ad 53), .ref (ad 54), .ref (ad 55), .int (nI n), .int (nI rd), .int (nI came), .int mis, .int lost, .int bel]) := by rw [hg2, va_up_ne _ _ (by omega)]; exact m_1
    have m_8 : g2 51 = .inl (k.2.1.1, 20, .inl (upd (fun j => nI (ln j)) (u - 1) (nI ((ln (u - 1)) + 1)))) := by rw [hg2, va_up_self]
    have m_9 : g2 52 = .inl (k.2.1.1, 800, .inl (upd (fun j => nI (pg j)) ((40 * (u - 1)) + (ln (u - 1))) (nI ch))) := by rw [hg2, va_up_ne _ _ (by omega)]; exact m_3
    have m_10 : g2 53 = .inl (k.2.1.1, 16, .inl lat) := by rw [hg2, va_up_ne _ _ (by omega)]; exact m_4
    have m_11 : g2 54 = .inl (k.2.1.1, 16, .inl (fun j => nI (gar j))) := by rw [hg2, va_up_ne _ _ (by omega)]; exact m_5
    have m_12 : g2 55 = .inl (k.2.1.1, 120, .inl (fun j => nI (T j))) := by rw [hg2, va_up_ne _ _ (by omega)]; exact m_6
    have hf : mFull (u, ln, pg) = false := decide_eq_false c_13
    have hk : ∀ i, i ≠ 51 → i ≠ 52 → g2 i = g i := fun i h1 h2 => by rw [hg2, va_up_ne _ _ h1, hg1, va_up_ne _ _ h2]
    have k51 : g2 51 = .inl (k.2.1.1, 20, .inl (fun j => nI (va_up ln (u - 1) (ln (u - 1) + 1) j))) := by rw [m_8, upd_nI]
    have k52 : g2 52 = .inl (k.2.1.1, 800, .inl (fun j => nI (va_up pg (40 * (u - 1) + ln (u - 1)) ch j))) := by rw [m_9, upd_nI]
    exact m_vret hx hb hr hlocks hI (Or.inr ⟨hf, ⟨(hk 50 (by omega) (by omega)).trans h50, k51, k52, (hk 53 (by omega) (by omega)).trans h53, (hk 54 (by omega) (by omega)).trans h54, (hk 55 (by omega) (by omega)).trans h55⟩, fun i hi => hk i (by omega) (by omega)⟩) dX4_set_69
  · refine lv_aload_n hx hb dX4_set_16 rfl (lv_at hl 0 rfl) ?_
    refine lv_dup hx hb dX4_set_17 rfl ?_
    refine m_get (ci := 4) (C := RX4) (T := TX4) (N' := 16) hx hb hts (by decide +kernel) hown hE hI 50 (by omega) h50 rfl 14 (by decide) (hts (.fieldLink RX4 70 "TapePrinterModel" "lost" "I") (by decide +kernel)) rfl dX4_set_18 ?_
    refine lv_iconst (v := nI 1) hx hb dX4_set_21 (by decide) ?_
    refine lv_iadd hx hb dX4_set_22 ?_
    refine m_top (show lost + (nI 1) = lost + 1 from rfl) ?_
    refine m_put (ci := 4) (C := RX4) (T := TX4) (N' := 16) (ty := .int) hx hb hts (by decide +kernel) tyX4 tyX4_ok nmX4 hown hE hI 50 (by omega) h50 rfl 14 (by decide) (hts (.fieldLink RX4 70 "TapePrinterModel" "lost" "I") (by decide +kernel)) rfl (by decide +kernel) rfl rfl (Nat.le_of_ble_eq_true rfl) dX4_set_23 (fun H locs hI => ?_)
    obtain ⟨g3, hg3⟩ : ∃ zz, zz = va_up g 50 (.inr (4, [.int (nI th), .int (bI fig), .int (bI uns), .int (nI play), .int (nI u), .ref (ad 51), .ref (ad 52), .ref (ad 53), .ref (ad 54), .ref (ad 55), .int (nI n), .int (nI rd), .int (nI came), .int mis, .int (lost + 1), .int bel])) := ⟨_, rfl⟩
    replace hI : mI k ad N g3 (mA ad N s.heap.size) s H locs := by rw [hg3]; exact hI
    have m_13 : g3 50 = .inr (4, [.int (nI th), .int (bI fig), .int (bI uns), .int (nI play), .int (nI u), .ref (ad 51), .ref (ad 52), .ref (ad 53), .ref (ad 54), .ref (ad 55), .int (nI n), .int (nI rd), .int (nI came), .int mis, .int (lost + 1), .int bel]) := by rw [hg3, va_up_self]
    have m_14 : g3 51 = .inl (k.2.1.1, 20, .inl (fun j => nI (ln j))) := by rw [hg3, va_up_ne _ _ (by omega)]; exact h51
    have m_15 : g3 52 = .inl (k.2.1.1, 800, .inl (fun j => nI (pg j))) := by rw [hg3, va_up_ne _ _ (by omega)]; exact h52
    have m_16 : g3 53 = .inl (k.2.1.1, 16, .inl lat) := by rw [hg3, va_up_ne _ _ (by omega)]; exact h53
    have m_17 : g3 54 = .inl (k.2.1.1, 16, .inl (fun j => nI (gar j))) := by rw [hg3, va_up_ne _ _ (by omega)]; exact h54
    have m_18 : g3 55 = .inl (k.2.1.1, 120, .inl (fun j => nI (T j))) := by rw [hg3, va_up_ne _ _ (by omega)]; exact h55
    have hf : mFull (u, ln, pg) = true := decide_eq_true c_13
    have hk : ∀ i, i ≠ 50 → g3 i = g i := fun i hi => by rw [hg3, va_up_ne _ _ hi]
    exact m_vret hx hb hr hlocks hI (Or.inl ⟨hf, ⟨m_13, (hk 51 (by omega)).trans h51, (hk 52 (by omega)).trans h52, (hk 53 (by omega)).trans h53, (hk 54 (by omega)).trans h54, (hk 55 (by omega)).trans h55⟩, fun i hi => hk i (by omega)⟩) dX4_set_26
section MCP
variable {p : Program} {l : Launch} {e : Env} {R : Room} {s : State} {m : MethodId} {args : Array Value} {below : List Frame} {meth : Method} {c : Code} {H : Heap} {locs : List Loc} {cells slots : Nat} {Q : State → Prop}
variable {cc : ByteArray} {pc : Nat} {ls : Array Slot} {rest : List Value} {k : mC} {ad : Nat → Nat} {N : Nat} {g : Nat → va_E} {A : Nat → Prop}
/-- System.arraycopy of a row onto itself -/
theorem m_copyi (hx : p.tables.exec = Jvm.exec) (hb : c.code = cc) (hml : c.maxLocals = ls.size) {own : String} {index : Nat} (hown : s.vm.findClass own = some m.cls) (hlink : (Cond.methodLink own index arraycopyName).before args s = true) (hnat : (Cond.native arraycopyName).before args s = true) (hstat : (Cond.static arraycopyName).before args s = true) (hini : (Cond.initialized "java/lang/System").before args s = true)
    (hE : mE k ad N A s) (hI : mI k ad N g A s H locs) (i : Nat) (hi : i < N) {n0 : Nat} {f : Nat → Int32} (he : g i = .inl (k.2.1.1, n0, .inl f)) {sp dp n : Nat} (h1 : sp + n ≤ n0) (h2 : dp + n ≤ n0) (h3 : n0 < 2147483648)
    (hframes : 1 ≤ R.frames) (hlocals : (rest.map fun v => v.category).sum + (nativeFrameWords "java/lang/System" "arraycopy" 5 + 11) ≤ R.locals) (hdg : decode cc pc = .ok (.invokestatic index, 3))
    (kk : ∀ (H : Heap) (locs : List Loc), mI k ad N (va_up g i (.inl (k.2.1.1, n0, .inl (va_cpy f f sp dp n)))) A s H locs → W p l e R s m args below meth c H locs cells slots Q (F0 m (pc + 3) ls rest)) :
    W p l e R s m args below meth c H locs cells slots Q (F0 m pc ls (.int (nI n) :: .int (nI dp) :: .ref (ad i) :: .int (nI sp) :: .ref (ad i) :: rest)) := by
  have c1 : (nI sp).toNatClampNeg = sp := nI_clamp (by omega)
  have c2 : (nI dp).toNatClampNeg = dp := nI_clamp (by omega)
  have c3 : (nI n).toNatClampNeg = n := nI_clamp (by omega)
  exact va_copyi (D := k.1) (cl := vwCl) (ty := .int) hx hb hml hown hlink hnat hstat hini hE.1.1 hI.1 (mw_D hE.2.1 hE.2.2.1) hI.2 i i 0 0 (mw_at' hi he) (mw_at' hi he) rfl rfl rfl (nI_pos (by omega)) (nI_pos (by omega)) (nI_pos (by omega)) (by rw [c1, c3]; exact h1) (by rw [c2, c3]; exact h2) (fun _ _ => rfl) hframes hlocals hdg
    (fun H1 locs1 hP _ hS => kk H1 locs1 ⟨by rw [mw_set hi, c1, c2, c3] at hP; exact hP, hS⟩)
end MCP
set_option maxHeartbeats 8000000 in
set_option maxRecDepth 100000 in
theorem c_X4_feed (k : mC) (l : Launch) (ad : Nat → Nat) (N : Nat) (g : Nat → va_E) (sz : Nat) (th : Nat) (uns : Bool) (play rd n : Nat) (lat : Nat → Int32) (gar T : Nat → Nat) (came : Nat) (mis lost bel : Int32) (fig : Bool) (u : Nat) (ln pg : Nat → Nat)  (hN : 56 ≤ N) (hW : CW play rd n lat gar T) (hwf : mWf (u, ln, pg)) (hcame : came < 2147483648) (hM0 : MR k ad g th uns play rd n lat gar T (came, mis, lost, bel, fig, u, ln, pg))  : mCv k l yX4_feed wsX4_feed { frames := 1, cells := 0, slots := 0, locals := 40 } ad N g sz [.ref (ad 50)] (fun g1 => MR k ad g1 th uns play rd n lat gar T (came, mis, lost, bel, fig, mNl (u, ln, pg)) ∧ ∀ i, (i < 50 ∨ 56 ≤ i) → g1 i = g i) := by
  refine mOf (Qc := fun z9 => va_Qv (fun g1 => MR k ad g1 th uns play rd n lat gar T (came, mis, lost, bel, fig, mNl (u, ln, pg)) ∧ ∀ i, (i < 50 ∨ 56 ≤ i) → g1 i = g i) (mB k ad N) (mA ad N z9)) (cc := cX4_feed) (maxL := 1) (ret := none) (by decide) rfl (Nat.le_of_ble_eq_true rfl) ?_
  intro p e s m below meth c hx hb hr hts hown hlocks hml hin hE hI ls hl
  have hl : lv_has ls 1 [(0, .ref (ad 50))] := hl
  have h50 : g 50 = .inr (4, [.int (nI th), .int (bI fig), .int (bI uns), .int (nI play), .int (nI u), .ref (ad 51), .ref (ad 52), .ref (ad 53), .ref (ad 54), .ref (ad 55), .int (nI n), .int (nI rd), .int (nI came), .int mis, .int lost, .int bel]) := hM0.1
  have h51 : g 51 = .inl (k.2.1.1, 20, .inl (fun j => nI (ln j))) := hM0.2.1
  have h52 : g 52 = .inl (k.2.1.1, 800, .inl (fun j => nI (pg j))) := hM0.2.2.1
  have h53 : g 53 = .inl (k.2.1.1, 16, .inl lat) := hM0.2.2.2.1
  have h54 : g 54 = .inl (k.2.1.1, 16, .inl (fun j => nI (gar j))) := hM0.2.2.2.2.1
  have h55 : g 55 = .inl (k.2.1.1, 120, .inl (fun j => nI (T j))) := hM0.2.2.2.2.2
  obtain ⟨hplay, hrd, hn, hgar, hT, hlat⟩ := id hW
  have hu0 : 0 < u := hwf.1
  have hu : u ≤ 20 := hwf.2.1
  have hln : ∀ j, j < 20 → ln j ≤ 40 := hwf.2.2
  refine lv_aload_n hx hb dX4_feed_0 rfl (lv_at hl 0 rfl) ?_
  refine m_get (ci := 4) (C := RX4) (T := TX4) (N' := 16) hx hb hts (by decide +kernel) hown hE hI 50 (by omega) h50 rfl 4 (by decide) (hts (.fieldLink RX4 7 "TapePrinterModel" "lines" "I") (by decide +kernel)) rfl dX4_feed_1 ?_
  refine lv_bipush (v := nI 20) hx hb dX4_feed_4 (by decide) ?_
  refine m_cneN (tgt := 51) hx hb (by omega) (by omega) dX4_feed_6 (by decide) (fun c_6 => ?_) (fun c_6 => ?_)
  · refine lv_aload_n hx hb dX4_feed_51 rfl (lv_at hl 0 rfl) ?_
    refine m_get (ci := 4) (C := RX4) (T := TX4) (N' := 16) hx hb hts (by decide +kernel) hown hE hI 50 (by omega) h50 rfl 5 (by decide) (hts (.fieldLink RX4 13 "TapePrinterModel" "longs" "[I") (by decide +kernel)) rfl dX4_feed_52 ?_
    refine lv_aload_n hx hb dX4_feed_55 rfl (lv_at hl 0 rfl) ?_
    refine m_get (ci := 4) (C := RX4) (T := TX4) (N' := 16) hx hb hts (by decide +kernel) hown hE hI 50 (by omega) h50 rfl 4 (by decide) (hts (.fieldLink RX4 7 "TapePrinterModel" "lines" "I") (by decide +kernel)) rfl dX4_feed_56 ?_
    refine lv_iconst (v := nI 0) hx hb dX4_feed_59 (by decide) ?_
    refine m_iast hx hb hE hI 51 (by omega) (j := u) h51 (by omega) (by omega) dX4_feed_60 (fun H locs hI => ?_)
    obtain ⟨g1, hg1⟩ : ∃ zz, zz = va_up g 51 (.inl (k.2.1.1, 20, .inl (upd (fun j => nI (ln j)) u (nI 0)))) := ⟨_, rfl⟩
    replace hI : mI k ad N g1 (mA ad N s.heap.size) s H locs := by rw [hg1]; exact hI
    have m_1 : g1 50 = .inr (4, [.int (nI th), .int (bI fig), .int (bI uns), .int (nI play), .int (nI u), .ref (ad 51), .ref (ad 52), .ref (ad 53), .ref (ad 54), .ref (ad 55), .int (nI n), .int (nI rd), .int (nI came), .int mis, .int lost, .int bel]) := by rw [hg1, va_up_ne _ _ (by omega)]; exact h50
    have m_2 : g1 51 = .inl (k.2.1.1, 20, .inl (upd (fun j => nI (ln j)) u (nI 0))) := by rw [hg1, va_up_self]
    have m_3 : g1 52 = .inl (k.2.1.1, 800, .inl (fun j => nI (pg j))) := by rw [hg1, va_up_ne _ _ (by omega)]; exact h52
    have m_4 : g1 53 = .inl (k.2.1.1, 16, .inl lat) := by rw [hg1, va_up_ne _ _ (by omega)]; exact h53
    have m_5 : g1 54 = .inl (k.2.1.1, 16, .inl (fun j => nI (gar j))) := by rw [hg1, va_up_ne _ _ (by omega)]; exact h54
    have m_6 : g1 55 = .inl (k.2.1.1, 120, .inl (fun j => nI (T j))) := by rw [hg1, va_up_ne _ _ (by omega)]; exact h55
    refine lv_aload_n hx hb dX4_feed_61 rfl (lv_at hl 0 rfl) ?_
    refine lv_dup hx hb dX4_feed_62 rfl ?_
    refine m_get (ci := 4) (C := RX4) (T := TX4) (N' := 16) hx hb hts (by decide +kernel) hown hE hI 50 (by omega) m_1 rfl 4 (by decide) (hts (.fieldLink RX4 7 "TapePrinterModel" "lines" "I") (by decide +kernel)) rfl dX4_feed_63 ?_
    refine lv_iconst (v := nI 1) hx hb dX4_feed_66 (by decide) ?_
    refine m_iaddN hx hb dX4_feed_67 ?_
    refine m_put (ci := 4) (C := RX4) (T := TX4) (N' := 16) (ty := .int) hx hb hts (by decide +kernel) tyX4 tyX4_ok nmX4 hown hE hI 50 (by omega) m_1 rfl 4 (by decide) (hts (.fieldLink RX4 7 "TapePrinterModel" "lines" "I") (by decide +kernel)) rfl (by decide +kernel) rfl rfl (Nat.le_of_ble_eq_true rfl) dX4_feed_68 (fun H locs hI => ?_)
    obtain ⟨g2, hg2⟩ : ∃ zz, zz = va_up g1 50 (.inr (4, [.int (nI th), .int (bI fig), .int (bI uns), .int (nI play), .int (nI (u + 1)), .ref (ad 51), .ref (ad 52), .ref (ad 53), .ref (ad 54), .ref (ad 55), .int (nI n), .int (nI rd), .int (nI came), .int mis, .int lost, .int bel])) := ⟨_, rfl⟩
    replace hI : mI k ad N g2 (mA ad N s.heap.size) s H locs := by rw [hg2]; exact hI
    have m_7 : g2 50 = .inr (4, [.int (nI th), .int (bI fig), .int (bI uns), .int (nI play), .int (nI (u + 1)), .ref (ad 51), .ref (ad 52), .ref (ad 53), .ref (ad 54), .ref (ad 55), .int (nI n), .int (nI rd), .int (nI came), .int mis, .int lost, .int bel]) := by rw [hg2, va_up_self]
    have m_8 : g2 51 = .inl (k.2.1.1, 20, .inl (upd (fun j => nI (ln j)) u (nI 0))) := by rw [hg2, va_up_ne _ _ (by omega)]; exact m_2
    have m_9 : g2 52 = .inl (k.2.1.1, 800, .inl (fun j => nI (pg j))) := by rw [hg2, va_up_ne _ _ (by omega)]; exact m_3
    have m_10 : g2 53 = .inl (k.2.1.1, 16, .inl lat) := by rw [hg2, va_up_ne _ _ (by omega)]; exact m_4
    have m_11 : g2 54 = .inl (k.2.1.1, 16, .inl (fun j => nI (gar j))) := by rw [hg2, va_up_ne _ _ (by omega)]; exact m_5
    have m_12 : g2 55 = .inl (k.2.1.1, 120, .inl (fun j => nI (T j))) := by rw [hg2, va_up_ne _ _ (by omega)]; exact m_6
    have hnl : mNl (u, ln, pg) = (u + 1, va_up ln u 0, pg) := by unfold mNl; rw [if_neg c_6]
    have hk : ∀ i, i ≠ 50 → i ≠ 51 → i ≠ 52 → g2 i = g i := fun i h1 h2 h3 => by rw [hg2, va_up_ne _ _ (by omega), hg1, va_up_ne _ _ (by omega)]
    have k51 : g2 51 = .inl (k.2.1.1, 20, .inl (fun j => nI (va_up ln u 0 j))) := by rw [m_8, upd_nI]
    have k52 := m_9
    have k50 := m_7
    exact m_vret hx hb hr hlocks hI (⟨by rw [hnl]; exact ⟨k50, k51, k52, (hk 53 (by omega) (by omega) (by omega)).trans h53, (hk 54 (by omega) (by omega) (by omega)).trans h54, (hk 55 (by omega) (by omega) (by omega)).trans h55⟩, fun i hi => hk i (by omega) (by omega) (by omega)⟩) dX4_feed_71
  · refine lv_aload_n hx hb dX4_feed_9 rfl (lv_at hl 0 rfl) ?_
    refine m_get (ci := 4) (C := RX4) (T := TX4) (N' := 16) hx hb hts (by decide +kernel) hown hE hI 50 (by omega) h50 rfl 6 (by decide) (hts (.fieldLink RX4 17 "TapePrinterModel" "page" "[I") (by decide +kernel)) rfl dX4_feed_10 ?_
    refine lv_bipush (v := nI 40) hx hb dX4_feed_13 (by decide) ?_
    refine lv_aload_n hx hb dX4_feed_15 rfl (lv_at hl 0 rfl) ?_
    refine m_get (ci := 4) (C := RX4) (T := TX4) (N' := 16) hx hb hts (by decide +kernel) hown hE hI 50 (by omega) h50 rfl 6 (by decide) (hts (.fieldLink RX4 17 "TapePrinterModel" "page" "[I") (by decide +kernel)) rfl dX4_feed_16 ?_
    refine lv_iconst (v := nI 0) hx hb dX4_feed_19 (by decide) ?_
    refine lv_sipush (v := nI 760) hx hb dX4_feed_20 (by decide) ?_
    refine m_copyi hx hb (hml.trans hl.1.symm) hown (hts (.methodLink RX4 73 arraycopyName) (by decide +kernel)) (hts (.native arraycopyName) (by decide +kernel)) (hts (.static arraycopyName) (by decide +kernel)) (hts (.initialized "java/lang/System") (by decide +kernel)) hE hI 52 (by omega) (n0 := 800) (f := fun j => nI (pg j)) h52 (sp := 40) (dp := 0) (n := 760) (by omega) (by omega) (by omega) (Nat.le_of_ble_eq_true rfl) (Nat.le_of_ble_eq_true rfl) dX4_feed_23 (fun H locs hI => ?_)
    obtain ⟨g3, hg3⟩ : ∃ zz, zz = va_up g 52 (.inl (k.2.1.1, 800, .inl (va_cpy (fun j => nI (pg j)) (fun j => nI (pg j)) 40 0 760))) := ⟨_, rfl⟩
    replace hI : mI k ad N g3 (mA ad N s.heap.size) s H locs := by rw [hg3]; exact hI
    have m_13 : g3 50 = .inr (4, [.int (nI th), .int (bI fig), .int (bI uns), .int (nI play), .int (nI u), .ref (ad 51), .ref (ad 52), .ref (ad 53), .ref (ad 54), .ref (ad 55), .int (nI n), .int (nI rd), .int (nI came), .int mis, .int lost, .int bel]) := by rw [hg3, va_up_ne _ _ (by omega)]; exact h50
    have m_14 : g3 51 = .inl (k.2.1.1, 20, .inl (fun j => nI (ln j))) := by rw [hg3, va_up_ne _ _ (by omega)]; exact h51
    have m_15 : g3 52 = .inl (k.2.1.1, 800, .inl (va_cpy (fun j => nI (pg j)) (fun j => nI (pg j)) 40 0 760)) := by rw [hg3, va_up_self]
    have m_16 : g3 53 = .inl (k.2.1.1, 16, .inl lat) := by rw [hg3, va_up_ne _ _ (by omega)]; exact h53
    have m_17 : g3 54 = .inl (k.2.1.1, 16, .inl (fun j => nI (gar j))) := by rw [hg3, va_up_ne _ _ (by omega)]; exact h54
    have m_18 : g3 55 = .inl (k.2.1.1, 120, .inl (fun j => nI (T j))) := by rw [hg3, va_up_ne _ _ (by omega)]; exact h55
    refine lv_aload_n hx hb dX4_feed_26 rfl (lv_at hl 0 rfl) ?_
    refine m_get (ci := 4) (C := RX4) (T := TX4) (N' := 16) hx hb hts (by decide +kernel) hown hE hI 50 (by omega) m_13 rfl 5 (by decide) (hts (.fieldLink RX4 13 "TapePrinterModel" "longs" "[I") (by decide +kernel)) rfl dX4_feed_27 ?_
    refine lv_iconst (v := nI 1) hx hb dX4_feed_30 (by decide) ?_
    refine lv_aload_n hx hb dX4_feed_31 rfl (lv_at hl 0 rfl) ?_
    refine m_get (ci := 4) (C := RX4) (T := TX4) (N' := 16) hx hb hts (by decide +kernel) hown hE hI 50 (by omega) m_13 rfl 5 (by decide) (hts (.fieldLink RX4 13 "TapePrinterModel" "longs" "[I") (by decide +kernel)) rfl dX4_feed_32 ?_
    refine lv_iconst (v := nI 0) hx hb dX4_feed_35 (by decide) ?_
    refine lv_bipush (v := nI 19) hx hb dX4_feed_36 (by decide) ?_
    refine m_copyi hx hb (hml.trans hl.1.symm) hown (hts (.methodLink RX4 73 arraycopyName) (by decide +kernel)) (hts (.native arraycopyName) (by decide +kernel)) (hts (.static arraycopyName) (by decide +kernel)) (hts (.initialized "java/lang/System") (by decide +kernel)) hE hI 51 (by omega) (n0 := 20) (f := fun j => nI (ln j)) m_14 (sp := 1) (dp := 0) (n := 19) (by omega) (by omega) (by omega) (Nat.le_of_ble_eq_true rfl) (Nat.le_of_ble_eq_true rfl) dX4_feed_38 (fun H locs hI => ?_)
    obtain ⟨g4, hg4⟩ : ∃ zz, zz = va_up g3 51 (.inl (k.2.1.1, 20, .inl (va_cpy (fun j => nI (ln j)) (fun j => nI (ln j)) 1 0 19))) := ⟨_, rfl⟩
    replace hI : mI k ad N g4 (mA ad N s.heap.size) s H locs := by rw [hg4]; exact hI
    have m_19 : g4 50 = .inr (4, [.int (nI th), .int (bI fig), .int (bI uns), .int (nI play), .int (nI u), .ref (ad 51), .ref (ad 52), .ref (ad 53), .ref (ad 54), .ref (ad 55), .int (nI n), .int (nI rd), .int (nI came), .int mis, .int lost, .int bel]) := by rw [hg4, va_up_ne _ _ (by omega)]; exact m_13
    have m_20 : g4 51 = .inl (k.2.1.1, 20, .inl (va_cpy (fun j => nI (ln j)) (fun j => nI (ln j)) 1 0 19)) := by rw [hg4, va_up_self]
    have m_21 : g4 52 = .inl (k.2.1.1, 800, .inl (va_cpy (fun j => nI (pg j)) (fun j => nI (pg j)) 40 0 760)) := by rw [hg4, va_up_ne _ _ (by omega)]; exact m_15
    have m_22 : g4 53 = .inl (k.2.1.1, 16, .inl lat) := by rw [hg4, va_up_ne _ _ (by omega)]; exact m_16
    have m_23 : g4 54 = .inl (k.2.1.1, 16, .inl (fun j => nI (gar j))) := by rw [hg4, va_up_ne _ _ (by omega)]; exact m_17
    have m_24 : g4 55 = .inl (k.2.1.1, 120, .inl (fun j => nI (T j))) := by rw [hg4, va_up_ne _ _ (by omega)]; exact m_18
    refine lv_aload_n hx hb dX4_feed_41 rfl (lv_at hl 0 rfl) ?_
    refine lv_dup hx hb dX4_feed_42 rfl ?_
    refine m_get (ci := 4) (C := RX4) (T := TX4) (N' := 16) hx hb hts (by decide +kernel) hown hE hI 50 (by omega) m_19 rfl 4 (by decide) (hts (.fieldLink RX4 7 "TapePrinterModel" "lines" "I") (by decide +kernel)) rfl dX4_feed_43 ?_
    refine lv_iconst (v := nI 1) hx hb dX4_feed_46 (by decide) ?_
    refine m_isubN hx hb (by omega) dX4_feed_47 ?_
    refine m_put (ci := 4) (C := RX4) (T := TX4) (N' := 16) (ty := .int) hx hb hts (by decide +kernel) tyX4 tyX4_ok nmX4 hown hE hI 50 (by omega) m_19 rfl 4 (by decide) (hts (.fieldLink RX4 7 "TapePrinterModel" "lines" "I") (by decide +kernel)) rfl (by decide +kernel) rfl rfl (Nat.le_of_ble_eq_true rfl) dX4_feed_48 (fun H locs hI => ?_)
    obtain ⟨g5, hg5⟩ : ∃ zz, zz = va_up g4 50 (.inr (4, [.int (nI th), .int (bI fig), .int (bI uns), .int (nI play), .int (nI (u - 1)), .ref (ad 51), .ref (ad 52), .ref (ad 53), .ref (ad 54), .ref (ad 55), .int (nI n), .int (nI rd), .int (nI came), .int mis, .int lost, .int bel])) := ⟨_, rfl⟩
    replace hI : mI k ad N g5 (mA ad N s.heap.size) s H locs := by rw [hg5]; exact hI
    have m_25 : g5 50 = .inr (4, [.int (nI th), .int (bI fig), .int (bI uns), .int (nI play), .int (nI (u - 1)), .ref (ad 51), .ref (ad 52), .ref (ad 53), .ref (ad 54), .ref (ad 55), .int (nI n), .int (nI rd), .int (nI came), .int mis, .int lost, .int bel]) := by rw [hg5, va_up_self]
    have m_26 : g5 51 = .inl (k.2.1.1, 20, .inl (va_cpy (fun j => nI (ln j)) (fun j => nI (ln j)) 1 0 19)) := by rw [hg5, va_up_ne _ _ (by omega)]; exact m_20
    have m_27 : g5 52 = .inl (k.2.1.1, 800, .inl (va_cpy (fun j => nI (pg j)) (fun j => nI (pg j)) 40 0 760)) := by rw [hg5, va_up_ne _ _ (by omega)]; exact m_21
    have m_28 : g5 53 = .inl (k.2.1.1, 16, .inl lat) := by rw [hg5, va_up_ne _ _ (by omega)]; exact m_22
    have m_29 : g5 54 = .inl (k.2.1.1, 16, .inl (fun j => nI (gar j))) := by rw [hg5, va_up_ne _ _ (by omega)]; exact m_23
    have m_30 : g5 55 = .inl (k.2.1.1, 120, .inl (fun j => nI (T j))) := by rw [hg5, va_up_ne _ _ (by omega)]; exact m_24
    refine lv_aload_n hx hb dX4_feed_51 rfl (lv_at hl 0 rfl) ?_
    refine m_get (ci := 4) (C := RX4) (T := TX4) (N' := 16) hx hb hts (by decide +kernel) hown hE hI 50 (by omega) m_25 rfl 5 (by decide) (hts (.fieldLink RX4 13 "TapePrinterModel" "longs" "[I") (by decide +kernel)) rfl dX4_feed_52 ?_
    refine lv_aload_n hx hb dX4_feed_55 rfl (lv_at hl 0 rfl) ?_
    refine m_get (ci := 4) (C := RX4) (T := TX4) (N' := 16) hx hb hts (by decide +kernel) hown hE hI 50 (by omega) m_25 rfl 4 (by decide) (hts (.fieldLink RX4 7 "TapePrinterModel" "lines" "I") (by decide +kernel)) rfl dX4_feed_56 ?_
    refine lv_iconst (v := nI 0) hx hb dX4_feed_59 (by decide) ?_
    refine m_iast hx hb hE hI 51 (by omega) (j := u - 1) m_26 (by omega) (by omega) dX4_feed_60 (fun H locs hI => ?_)
    obtain ⟨g6, hg6⟩ : ∃ zz, zz = va_up g5 51 (.inl (k.2.1.1, 20, .inl (upd (va_cpy (fun j => nI (ln j)) (fun j => nI (ln j)) 1 0 19) (u - 1) (nI 0)))) := ⟨_, rfl⟩
    replace hI : mI k ad N g6 (mA ad N s.heap.size) s H locs := by rw [hg6]; exact hI
    have m_31 : g6 50 = .inr (4, [.int (nI th), .int (bI fig), .int (bI uns), .int (nI play), .int (nI (u - 1)), .ref (ad 51), .ref (ad 52), .ref (ad 53), .ref (ad 54), .ref (ad 55), .int (nI n), .int (nI rd), .int (nI came), .int mis, .int lost, .int bel]) := by rw [hg6, va_up_ne _ _ (by omega)]; exact m_25
    have m_32 : g6 51 = .inl (k.2.1.1, 20, .inl (upd (va_cpy (fun j => nI (ln j)) (fun j => nI (ln j)) 1 0 19) (u - 1) (nI 0))) := by rw [hg6, va_up_self]
    have m_33 : g6 52 = .inl (k.2.1.1, 800, .inl (va_cpy (fun j => nI (pg j)) (fun j => nI (pg j)) 40 0 760)) := by rw [hg6, va_up_ne _ _ (by omega)]; exact m_27
    have m_34 : g6 53 = .inl (k.2.1.1, 16, .inl lat) := by rw [hg6, va_up_ne _ _ (by omega)]; exact m_28
    have m_35 : g6 54 = .inl (k.2.1.1, 16, .inl (fun j => nI (gar j))) := by rw [hg6, va_up_ne _ _ (by omega)]; exact m_29
    have m_36 : g6 55 = .inl (k.2.1.1, 120, .inl (fun j => nI (T j))) := by rw [hg6, va_up_ne _ _ (by omega)]; exact m_30
    refine lv_aload_n hx hb dX4_feed_61 rfl (lv_at hl 0 rfl) ?_
    refine lv_dup hx hb dX4_feed_62 rfl ?_
    refine m_get (ci := 4) (C := RX4) (T := TX4) (N' := 16) hx hb hts (by decide +kernel) hown hE hI 50 (by omega) m_31 rfl 4 (by decide) (hts (.fieldLink RX4 7 "TapePrinterModel" "lines" "I") (by decide +kernel)) rfl dX4_feed_63 ?_
    refine lv_iconst (v := nI 1) hx hb dX4_feed_66 (by decide) ?_
    refine m_iaddN hx hb dX4_feed_67 ?_
    refine m_put (ci := 4) (C := RX4) (T := TX4) (N' := 16) (ty := .int) hx hb hts (by decide +kernel) tyX4 tyX4_ok nmX4 hown hE hI 50 (by omega) m_31 rfl 4 (by decide) (hts (.fieldLink RX4 7 "TapePrinterModel" "lines" "I") (by decide +kernel)) rfl (by decide +kernel) rfl rfl (Nat.le_of_ble_eq_true rfl) dX4_feed_68 (fun H locs hI => ?_)
    obtain ⟨g7, hg7⟩ : ∃ zz, zz = va_up g6 50 (.inr (4, [.int (nI th), .int (bI fig), .int (bI uns), .int (nI play), .int (nI ((u - 1) + 1)), .ref (ad 51), .ref (ad 52), .ref (ad 53), .ref (ad 54), .ref (ad 55), .int (nI n), .int (nI rd), .int (nI came), .int mis, .int lost, .int bel])) := ⟨_, rfl⟩
    replace hI : mI k ad N g7 (mA ad N s.heap.size) s H locs := by rw [hg7]; exact hI
    have m_37 : g7 50 = .inr (4, [.int (nI th), .int (bI fig), .int (bI uns), .int (nI play), .int (nI ((u - 1) + 1)), .ref (ad 51), .ref (ad 52), .ref (ad 53), .ref (ad 54), .ref (ad 55), .int (nI n), .int (nI rd), .int (nI came), .int mis, .int lost, .int bel]) := by rw [hg7, va_up_self]
    have m_38 : g7 51 = .inl (k.2.1.1, 20, .inl (upd (va_cpy (fun j => nI (ln j)) (fun j => nI (ln j)) 1 0 19) (u - 1) (nI 0))) := by rw [hg7, va_up_ne _ _ (by omega)]; exact m_32
    have m_39 : g7 52 = .inl (k.2.1.1, 800, .inl (va_cpy (fun j => nI (pg j)) (fun j => nI (pg j)) 40 0 760)) := by rw [hg7, va_up_ne _ _ (by omega)]; exact m_33
    have m_40 : g7 53 = .inl (k.2.1.1, 16, .inl lat) := by rw [hg7, va_up_ne _ _ (by omega)]; exact m_34
    have m_41 : g7 54 = .inl (k.2.1.1, 16, .inl (fun j => nI (gar j))) := by rw [hg7, va_up_ne _ _ (by omega)]; exact m_35
    have m_42 : g7 55 = .inl (k.2.1.1, 120, .inl (fun j => nI (T j))) := by rw [hg7, va_up_ne _ _ (by omega)]; exact m_36
    have hnl : mNl (u, ln, pg) = (20, va_up (va_cpy ln ln 1 0 19) 19 0, va_cpy pg pg 40 0 760) := by unfold mNl; rw [if_pos c_6]
    have hk : ∀ i, i ≠ 50 → i ≠ 51 → i ≠ 52 → g7 i = g i := fun i h1 h2 h3 => by rw [hg7, va_up_ne _ _ (by omega), hg6, va_up_ne _ _ (by omega), hg5, va_up_ne _ _ (by omega), hg4, va_up_ne _ _ (by omega), hg3, va_up_ne _ _ (by omega)]
    have k51 : g7 51 = .inl (k.2.1.1, 20, .inl (fun j => nI (va_up (va_cpy ln ln 1 0 19) 19 0 j))) := by rw [m_38, cpy_nI, show u - 1 = 19 by omega, upd_nI]
    have k52 : g7 52 = .inl (k.2.1.1, 800, .inl (fun j => nI (va_cpy pg pg 40 0 760 j))) := by rw [m_39, cpy_nI]
    have k50 := m_37
    rw [show u - 1 + 1 = 20 by omega] at k50
    exact m_vret hx hb hr hlocks hI (⟨by rw [hnl]; exact ⟨k50, k51, k52, (hk 53 (by omega) (by omega) (by omega)).trans h53, (hk 54 (by omega) (by omega) (by omega)).trans h54, (hk 55 (by omega) (by omega) (by omega)).trans h55⟩, fun i hi => hk i (by omega) (by omega) (by omega)⟩) dX4_feed_71
set_option maxHeartbeats 8000000 in
set_option maxRecDepth 100000 in
theorem c_X4_print (k : mC) (l : Launch) (ad : Nat → Nat) (N : Nat) (g : Nat → va_E) (sz : Nat) (th : Nat) (uns : Bool) (play rd n : Nat) (lat : Nat → Int32) (gar T : Nat → Nat) (came : Nat) (mis lost bel : Int32) (fig : Bool) (u : Nat) (ln pg : Nat → Nat) (co : Nat) (hN : 56 ≤ N) (hW : CW play rd n lat gar T) (hwf : mWf (u, ln, pg)) (hcame : came < 2147483648) (hM0 : MR k ad g th uns play rd n lat gar T (came, mis, lost, bel, fig, u, ln, pg)) (hc : co < 32) : mCv k l yX4_print wsX4_print { frames := 2, cells := 0, slots := 0, locals := 60 } ad N g sz [.ref (ad 50), .int (nI co)] (fun g1 => MR k ad g1 th uns play rd n lat gar T (yOb mNl mFull mAdd uns co (came, mis, lost, bel, fig, u, ln, pg)) ∧ ∀ i, (i < 50 ∨ 56 ≤ i) → g1 i = g i) := by
  refine mOf (Qc := fun z9 => va_Qv (fun g1 => MR k ad g1 th uns play rd n lat gar T (yOb mNl mFull mAdd uns co (came, mis, lost, bel, fig, u, ln, pg)) ∧ ∀ i, (i < 50 ∨ 56 ≤ i) → g1 i = g i) (mB k ad N) (mA ad N z9)) (cc := cX4_print) (maxL := 2) (ret := none) (by decide) rfl (Nat.le_of_ble_eq_true rfl) ?_
  intro p e s m below meth c hx hb hr hts hown hlocks hml hin hE hI ls hl
  have hl : lv_has ls 2 [(0, .ref (ad 50)), (1, .int (nI co))] := hl
  have h50 : g 50 = .inr (4, [.int (nI th), .int (bI fig), .int (bI uns), .int (nI play), .int (nI u), .ref (ad 51), .ref (ad 52), .ref (ad 53), .ref (ad 54), .ref (ad 55), .int (nI n), .int (nI rd), .int (nI came), .int mis, .int lost, .int bel]) := hM0.1
  have h51 : g 51 = .inl (k.2.1.1, 20, .inl (fun j => nI (ln j))) := hM0.2.1
  have h52 : g 52 = .inl (k.2.1.1, 800, .inl (fun j => nI (pg j))) := hM0.2.2.1
  have h53 : g 53 = .inl (k.2.1.1, 16, .inl lat) := hM0.2.2.2.1
  have h54 : g 54 = .inl (k.2.1.1, 16, .inl (fun j => nI (gar j))) := hM0.2.2.2.2.1
  have h55 : g 55 = .inl (k.2.1.1, 120, .inl (fun j => nI (T j))) := hM0.2.2.2.2.2
  obtain ⟨hplay, hrd, hn, hgar, hT, hlat⟩ := id hW
  have hu0 : 0 < u := hwf.1
  have hu : u ≤ 20 := hwf.2.1
  have hln : ∀ j, j < 20 → ln j ≤ 40 := hwf.2.2
  refine lv_iload_n hx hb dX4_print_0 rfl (lv_at hl 1 rfl) ?_
  refine lv_iconst (v := nI 2) hx hb dX4_print_1 (by decide) ?_
  refine m_cneN (tgt := 12) hx hb (by omega) (by omega) dX4_print_2 (by decide) (fun c_2 => ?_) (fun c_2 => ?_)
  · refine lv_iload_n hx hb dX4_print_12 rfl (lv_at hl 1 rfl) ?_
    refine lv_bipush (v := nI 8) hx hb dX4_print_13 (by decide) ?_
    refine m_cneN (tgt := 31) hx hb (by omega) (by omega) dX4_print_15 (by decide) (fun c_15 => ?_) (fun c_15 => ?_)
    · refine lv_iload_n hx hb dX4_print_31 rfl (lv_at hl 1 rfl) ?_
      refine lv_aload_n hx hb dX4_print_32 rfl (lv_at hl 0 rfl) ?_
      refine m_get (ci := 4) (C := RX4) (T := TX4) (N' := 16) hx hb hts (by decide +kernel) hown hE hI 50 (by omega) h50 rfl 1 (by decide) (hts (.fieldLink RX4 60 "TapePrinterModel" "isFigures" "Z") (by decide +kernel)) rfl dX4_print_33 ?_
      refine m_callSi (As := [.int (nI co), .int (bI fig)]) (rest := []) ⟨hx, hb, hml, hown, hts⟩ hE hI (c_X4_characterOf k l ad N g _ co fig (by omega)) (va_cwS 2 hts gX4_print_X4_characterOf rfl rfl rfl (by decide +kernel) ⟨Nat.le_of_ble_eq_true rfl, Nat.le_of_ble_eq_true rfl⟩) rfl hl.1 rfl (Nat.le_of_ble_eq_true rfl) dX4_print_36 ⟨Nat.le_of_ble_eq_true rfl, Nat.le_of_ble_eq_true rfl⟩ (m_deti (fun H locs hI => ?_))
      have hchl := chF_le co hc fig
      refine m_zeqN (tgt := 54) hx hb (by omega) dX4_print_39 (by decide) (fun c_39 => ?_) (fun c_39 => ?_)
      · have hch0 : chF co fig = 0 := c_39
        have hb8 : (if co = 8 then bel + 1 else bel) = bel := if_neg c_15
        have hpo : pOb mNl mFull mAdd (chF co fig) (u, ln, pg) = (u, ln, pg) := by rw [hch0]; rfl
        have hlo : lOb mFull (chF co fig) (u, ln, pg) lost = lost := by rw [hch0]; rfl
        refine lv_aload_n hx hb dX4_print_54 rfl (lv_at hl 0 rfl) ?_
        refine lv_aload_n hx hb dX4_print_55 rfl (lv_at hl 0 rfl) ?_
        refine lv_aload_n hx hb dX4_print_56 rfl (lv_at hl 0 rfl) ?_
        refine m_get (ci := 4) (C := RX4) (T := TX4) (N' := 16) hx hb hts (by decide +kernel) hown hE hI 50 (by omega) h50 rfl 1 (by decide) (hts (.fieldLink RX4 60 "TapePrinterModel" "isFigures" "Z") (by decide +kernel)) rfl dX4_print_57 ?_
        refine lv_iload_n hx hb dX4_print_60 rfl (lv_at hl 1 rfl) ?_
        refine m_callVi (As := [.int (bI fig), .int (nI co)]) (rest := [.ref (ad 50)]) ⟨hx, hb, hml, hown, hts⟩ hE hI (c_X4_shift k l ad N g _ th uns play rd n lat gar T came mis lost bel fig u ln pg fig co (by omega) hW hwf (by omega) ⟨h50, h51, h52, h53, h54, h55⟩ (by omega)) (cwV 2 hts gX4_print_X4_shift rfl rfl rfl (by decide +kernel) ⟨Nat.le_of_ble_eq_true rfl, Nat.le_of_ble_eq_true rfl⟩) (i := 50) (by omega) h50 rfl rfl hl.1 rfl (Nat.le_of_ble_eq_true rfl) dX4_print_61 ⟨Nat.le_of_ble_eq_true rfl, Nat.le_of_ble_eq_true rfl⟩ (m_deti (fun H locs hI => ?_))
        refine m_put (ci := 4) (C := RX4) (T := TX4) (N' := 16) (ty := .boolean) hx hb hts (by decide +kernel) tyX4 tyX4_ok nmX4 hown hE hI 50 (by omega) h50 rfl 1 (by decide) (hts (.fieldLink RX4 60 "TapePrinterModel" "isFigures" "Z") (by decide +kernel)) rfl (by decide +kernel) (bI_nar _) (bI_fit _) (Nat.le_of_ble_eq_true rfl) dX4_print_64 (fun H locs hI => ?_)
        obtain ⟨g1, hg1⟩ : ∃ zz, zz = va_up g 50 (.inr (4, [.int (nI th), .int (bI (fb uns co fig)), .int (bI uns), .int (nI play), .int (nI u), .ref (ad 51), .ref (ad 52), .ref (ad 53), .ref (ad 54), .ref (ad 55), .int (nI n), .int (nI rd), .int (nI came), .int mis, .int lost, .int bel])) := ⟨_, rfl⟩
        replace hI : mI k ad N g1 (mA ad N s.heap.size) s H locs := by rw [hg1]; exact hI
        have m_1 : g1 50 = .inr (4, [.int (nI th), .int (bI (fb uns co fig)), .int (bI uns), .int (nI play), .int (nI u), .ref (ad 51), .ref (ad 52), .ref (ad 53), .ref (ad 54), .ref (ad 55), .int (nI n), .int (nI rd), .int (nI came), .int mis, .int lost, .int bel]) := by rw [hg1, va_up_self]
        have m_2 : g1 51 = .inl (k.2.1.1, 20, .inl (fun j => nI (ln j))) := by rw [hg1, va_up_ne _ _ (by omega)]; exact h51
        have m_3 : g1 52 = .inl (k.2.1.1, 800, .inl (fun j => nI (pg j))) := by rw [hg1, va_up_ne _ _ (by omega)]; exact h52
        have m_4 : g1 53 = .inl (k.2.1.1, 16, .inl lat) := by rw [hg1, va_up_ne _ _ (by omega)]; exact h53
        have m_5 : g1 54 = .inl (k.2.1.1, 16, .inl (fun j => nI (gar j))) := by rw [hg1, va_up_ne _ _ (by omega)]; exact h54
        have m_6 : g1 55 = .inl (k.2.1.1, 120, .inl (fun j => nI (T j))) := by rw [hg1, va_up_ne _ _ (by omega)]; exact h55
        have hy : yOb mNl mFull mAdd uns co (came, mis, lost, bel, fig, u, ln, pg) = (came, mis, lost, bel, fb uns co fig, (u, ln, pg)) := by
          show (came, mis, lOb mFull (chF co fig) (u, ln, pg) lost, (if co = 8 then bel + 1 else bel), fb uns co fig, pOb mNl mFull mAdd (chF co fig) (u, ln, pg)) = _
          rw [hlo, hb8, hpo]
        have hk7 : ∀ i, (i < 50 ∨ 56 ≤ i) → g1 i = g i := fun i hi => by rw [hg1, va_up_ne _ _ (by omega)]
        exact m_vret hx hb hr hlocks hI (⟨by rw [hy]; exact ⟨m_1, m_2, m_3, m_4, m_5, m_6⟩, hk7⟩) dX4_print_67
      · refine lv_aload_n hx hb dX4_print_42 rfl (lv_at hl 0 rfl) ?_
        refine lv_iload_n hx hb dX4_print_43 rfl (lv_at hl 1 rfl) ?_
        refine lv_aload_n hx hb dX4_print_44 rfl (lv_at hl 0 rfl) ?_
        refine m_get (ci := 4) (C := RX4) (T := TX4) (N' := 16) hx hb hts (by decide +kernel) hown hE hI 50 (by omega) h50 rfl 1 (by decide) (hts (.fieldLink RX4 60 "TapePrinterModel" "isFigures" "Z") (by decide +kernel)) rfl dX4_print_45 ?_
        refine m_callSi (As := [.int (nI co), .int (bI fig)]) (rest := [.ref (ad 50)]) ⟨hx, hb, hml, hown, hts⟩ hE hI (c_X4_characterOf k l ad N g _ co fig (by omega)) (va_cwS 2 hts gX4_print_X4_characterOf rfl rfl rfl (by decide +kernel) ⟨Nat.le_of_ble_eq_true rfl, Nat.le_of_ble_eq_true rfl⟩) rfl hl.1 rfl (Nat.le_of_ble_eq_true rfl) dX4_print_48 ⟨Nat.le_of_ble_eq_true rfl, Nat.le_of_ble_eq_true rfl⟩ (m_deti (fun H locs hI => ?_))
        refine m_callVv (As := [.int (nI (chF co fig))]) (rest := []) ⟨hx, hb, hml, hown, hts⟩ hE hI (c_X4_set k l ad N g _ th uns play rd n lat gar T came mis lost bel fig u ln pg (chF co fig) (by omega) hW hwf (by omega) ⟨h50, h51, h52, h53, h54, h55⟩ ) (cwV 1 hts gX4_print_X4_set rfl rfl rfl (by decide +kernel) ⟨Nat.le_of_ble_eq_true rfl, Nat.le_of_ble_eq_true rfl⟩) (i := 50) (by omega) h50 rfl rfl hl.1 rfl (Nat.le_of_ble_eq_true rfl) dX4_print_51 ⟨Nat.le_of_ble_eq_true rfl, Nat.le_of_ble_eq_true rfl⟩ (fun g9 H locs hp hI => ?_)
        have hn54 := chF_54 co hc c_2 fig
        have hb8 : (if co = 8 then bel + 1 else bel) = bel := if_neg c_15
        rcases hp with ⟨hf, hM8, hk8⟩ | ⟨hf, hM8, hk8⟩
        · have hpo : pOb mNl mFull mAdd (chF co fig) (u, ln, pg) = (u, ln, pg) := by unfold pOb; rw [if_neg hn54, if_neg c_39, hf] <;> rfl
          have hlo : lOb mFull (chF co fig) (u, ln, pg) lost = lost + 1 := by unfold lOb; rw [if_neg hn54, if_neg c_39, hf] <;> rfl
          have m_7 : g9 50 = .inr (4, [.int (nI th), .int (bI fig), .int (bI uns), .int (nI play), .int (nI u), .ref (ad 51), .ref (ad 52), .ref (ad 53), .ref (ad 54), .ref (ad 55), .int (nI n), .int (nI rd), .int (nI came), .int mis, .int (lost + 1), .int bel]) := hM8.1
          have m_8 : g9 51 = .inl (k.2.1.1, 20, .inl (fun j => nI (ln j))) := hM8.2.1
          have m_9 : g9 52 = .inl (k.2.1.1, 800, .inl (fun j => nI (pg j))) := hM8.2.2.1
          have m_10 : g9 53 = .inl (k.2.1.1, 16, .inl lat) := hM8.2.2.2.1
          have m_11 : g9 54 = .inl (k.2.1.1, 16, .inl (fun j => nI (gar j))) := hM8.2.2.2.2.1
          have m_12 : g9 55 = .inl (k.2.1.1, 120, .inl (fun j => nI (T j))) := hM8.2.2.2.2.2
          refine lv_aload_n hx hb dX4_print_54 rfl (lv_at hl 0 rfl) ?_
          refine lv_aload_n hx hb dX4_print_55 rfl (lv_at hl 0 rfl) ?_
          refine lv_aload_n hx hb dX4_print_56 rfl (lv_at hl 0 rfl) ?_
          refine m_get (ci := 4) (C := RX4) (T := TX4) (N' := 16) hx hb hts (by decide +kernel) hown hE hI 50 (by omega) m_7 rfl 1 (by decide) (hts (.fieldLink RX4 60 "TapePrinterModel" "isFigures" "Z") (by decide +kernel)) rfl dX4_print_57 ?_
          refine lv_iload_n hx hb dX4_print_60 rfl (lv_at hl 1 rfl) ?_
          refine m_callVi (As := [.int (bI fig), .int (nI co)]) (rest := [.ref (ad 50)]) ⟨hx, hb, hml, hown, hts⟩ hE hI (c_X4_shift k l ad N g9 _ th uns play rd n lat gar T came mis (lost + 1) bel fig u ln pg fig co (by omega) hW hwf (by omega) ⟨m_7, m_8, m_9, m_10, m_11, m_12⟩ (by omega)) (cwV 2 hts gX4_print_X4_shift rfl rfl rfl (by decide +kernel) ⟨Nat.le_of_ble_eq_true rfl, Nat.le_of_ble_eq_true rfl⟩) (i := 50) (by omega) m_7 rfl rfl hl.1 rfl (Nat.le_of_ble_eq_true rfl) dX4_print_61 ⟨Nat.le_of_ble_eq_true rfl, Nat.le_of_ble_eq_true rfl⟩ (m_deti (fun H locs hI => ?_))
          refine m_put (ci := 4) (C := RX4) (T := TX4) (N' := 16) (ty := .boolean) hx hb hts (by decide +kernel) tyX4 tyX4_ok nmX4 hown hE hI 50 (by omega) m_7 rfl 1 (by decide) (hts (.fieldLink RX4 60 "TapePrinterModel" "isFigures" "Z") (by decide +kernel)) rfl (by decide +kernel) (bI_nar _) (bI_fit _) (Nat.le_of_ble_eq_true rfl) dX4_print_64 (fun H locs hI => ?_)
          obtain ⟨g2, hg2⟩ : ∃ zz, zz = va_up g9 50 (.inr (4, [.int (nI th), .int (bI (fb uns co fig)), .int (bI uns), .int (nI play), .int (nI u), .ref (ad 51), .ref (ad 52), .ref (ad 53), .ref (ad 54), .ref (ad 55), .int (nI n), .int (nI rd), .int (nI came), .int mis, .int (lost + 1), .int bel])) := ⟨_, rfl⟩
          replace hI : mI k ad N g2 (mA ad N s.heap.size) s H locs := by rw [hg2]; exact hI
          have m_13 : g2 50 = .inr (4, [.int (nI th), .int (bI (fb uns co fig)), .int (bI uns), .int (nI play), .int (nI u), .ref (ad 51), .ref (ad 52), .ref (ad 53), .ref (ad 54), .ref (ad 55), .int (nI n), .int (nI rd), .int (nI came), .int mis, .int (lost + 1), .int bel]) := by rw [hg2, va_up_self]
          have m_14 : g2 51 = .inl (k.2.1.1, 20, .inl (fun j => nI (ln j))) := by rw [hg2, va_up_ne _ _ (by omega)]; exact m_8
          have m_15 : g2 52 = .inl (k.2.1.1, 800, .inl (fun j => nI (pg j))) := by rw [hg2, va_up_ne _ _ (by omega)]; exact m_9
          have m_16 : g2 53 = .inl (k.2.1.1, 16, .inl lat) := by rw [hg2, va_up_ne _ _ (by omega)]; exact m_10
          have m_17 : g2 54 = .inl (k.2.1.1, 16, .inl (fun j => nI (gar j))) := by rw [hg2, va_up_ne _ _ (by omega)]; exact m_11
          have m_18 : g2 55 = .inl (k.2.1.1, 120, .inl (fun j => nI (T j))) := by rw [hg2, va_up_ne _ _ (by omega)]; exact m_12
          have hy : yOb mNl mFull mAdd uns co (came, mis, lost, bel, fig, u, ln, pg) = (came, mis, lost + 1, bel, fb uns co fig, (u, ln, pg)) := by
            show (came, mis, lOb mFull (chF co fig) (u, ln, pg) lost, (if co = 8 then bel + 1 else bel), fb uns co fig, pOb mNl mFull mAdd (chF co fig) (u, ln, pg)) = _
            rw [hlo, hb8, hpo]
          have hk7 : ∀ i, (i < 50 ∨ 56 ≤ i) → g2 i = g i := fun i hi => by rw [hg2, va_up_ne _ _ (by omega), hk8 i hi]
          exact m_vret hx hb hr hlocks hI (⟨by rw [hy]; exact ⟨m_13, m_14, m_15, m_16, m_17, m_18⟩, hk7⟩) dX4_print_67
        · have hpo : pOb mNl mFull mAdd (chF co fig) (u, ln, pg) = mAdd (u, ln, pg) (chF co fig) := by unfold pOb; rw [if_neg hn54, if_neg c_39, hf] <;> rfl
          have hlo : lOb mFull (chF co fig) (u, ln, pg) lost = lost := by unfold lOb; rw [if_neg hn54, if_neg c_39, hf] <;> rfl
          have hwf8 := mWf_add (ch := chF co fig) hwf hf
          rw [← hpo] at hM8 hwf8
          obtain ⟨⟨u2, ln2, pg2⟩, hq2⟩ : ∃ zz, zz = pOb mNl mFull mAdd (chF co fig) (u, ln, pg) := ⟨_, rfl⟩
          rw [← hq2] at hM8 hwf8
          have m_19 : g9 50 = .inr (4, [.int (nI th), .int (bI fig), .int (bI uns), .int (nI play), .int (nI u2), .ref (ad 51), .ref (ad 52), .ref (ad 53), .ref (ad 54), .ref (ad 55), .int (nI n), .int (nI rd), .int (nI came), .int mis, .int lost, .int bel]) := hM8.1
          have m_20 : g9 51 = .inl (k.2.1.1, 20, .inl (fun j => nI (ln2 j))) := hM8.2.1
          have m_21 : g9 52 = .inl (k.2.1.1, 800, .inl (fun j => nI (pg2 j))) := hM8.2.2.1
          have m_22 : g9 53 = .inl (k.2.1.1, 16, .inl lat) := hM8.2.2.2.1
          have m_23 : g9 54 = .inl (k.2.1.1, 16, .inl (fun j => nI (gar j))) := hM8.2.2.2.2.1
          have m_24 : g9 55 = .inl (k.2.1.1, 120, .inl (fun j => nI (T j))) := hM8.2.2.2.2.2
          refine lv_aload_n hx hb dX4_print_54 rfl (lv_at hl 0 rfl) ?_
          refine lv_aload_n hx hb dX4_print_55 rfl (lv_at hl 0 rfl) ?_
          refine lv_aload_n hx hb dX4_print_56 rfl (lv_at hl 0 rfl) ?_
          refine m_get (ci := 4) (C := RX4) (T := TX4) (N' := 16) hx hb hts (by decide +kernel) hown hE hI 50 (by omega) m_19 rfl 1 (by decide) (hts (.fieldLink RX4 60 "TapePrinterModel" "isFigures" "Z") (by decide +kernel)) rfl dX4_print_57 ?_
          refine lv_iload_n hx hb dX4_print_60 rfl (lv_at hl 1 rfl) ?_
          refine m_callVi (As := [.int (bI fig), .int (nI co)]) (rest := [.ref (ad 50)]) ⟨hx, hb, hml, hown, hts⟩ hE hI (c_X4_shift k l ad N g9 _ th uns play rd n lat gar T came mis lost bel fig u2 ln2 pg2 fig co (by omega) hW hwf8 (by omega) ⟨m_19, m_20, m_21, m_22, m_23, m_24⟩ (by omega)) (cwV 2 hts gX4_print_X4_shift rfl rfl rfl (by decide +kernel) ⟨Nat.le_of_ble_eq_true rfl, Nat.le_of_ble_eq_true rfl⟩) (i := 50) (by omega) m_19 rfl rfl hl.1 rfl (Nat.le_of_ble_eq_true rfl) dX4_print_61 ⟨Nat.le_of_ble_eq_true rfl, Nat.le_of_ble_eq_true rfl⟩ (m_deti (fun H locs hI => ?_))
          refine m_put (ci := 4) (C := RX4) (T := TX4) (N' := 16) (ty := .boolean) hx hb hts (by decide +kernel) tyX4 tyX4_ok nmX4 hown hE hI 50 (by omega) m_19 rfl 1 (by decide) (hts (.fieldLink RX4 60 "TapePrinterModel" "isFigures" "Z") (by decide +kernel)) rfl (by decide +kernel) (bI_nar _) (bI_fit _) (Nat.le_of_ble_eq_true rfl) dX4_print_64 (fun H locs hI => ?_)
          obtain ⟨g3, hg3⟩ : ∃ zz, zz = va_up g9 50 (.inr (4, [.int (nI th), .int (bI (fb uns co fig)), .int (bI uns), .int (nI play), .int (nI u2), .ref (ad 51), .ref (ad 52), .ref (ad 53), .ref (ad 54), .ref (ad 55), .int (nI n), .int (nI rd), .int (nI came), .int mis, .int lost, .int bel])) := ⟨_, rfl⟩
          replace hI : mI k ad N g3 (mA ad N s.heap.size) s H locs := by rw [hg3]; exact hI
          have m_25 : g3 50 = .inr (4, [.int (nI th), .int (bI (fb uns co fig)), .int (bI uns), .int (nI play), .int (nI u2), .ref (ad 51), .ref (ad 52), .ref (ad 53), .ref (ad 54), .ref (ad 55), .int (nI n), .int (nI rd), .int (nI came), .int mis, .int lost, .int bel]) := by rw [hg3, va_up_self]
          have m_26 : g3 51 = .inl (k.2.1.1, 20, .inl (fun j => nI (ln2 j))) := by rw [hg3, va_up_ne _ _ (by omega)]; exact m_20
          have m_27 : g3 52 = .inl (k.2.1.1, 800, .inl (fun j => nI (pg2 j))) := by rw [hg3, va_up_ne _ _ (by omega)]; exact m_21
          have m_28 : g3 53 = .inl (k.2.1.1, 16, .inl lat) := by rw [hg3, va_up_ne _ _ (by omega)]; exact m_22
          have m_29 : g3 54 = .inl (k.2.1.1, 16, .inl (fun j => nI (gar j))) := by rw [hg3, va_up_ne _ _ (by omega)]; exact m_23
          have m_30 : g3 55 = .inl (k.2.1.1, 120, .inl (fun j => nI (T j))) := by rw [hg3, va_up_ne _ _ (by omega)]; exact m_24
          have hy : yOb mNl mFull mAdd uns co (came, mis, lost, bel, fig, u, ln, pg) = (came, mis, lost, bel, fb uns co fig, (u2, ln2, pg2)) := by
            show (came, mis, lOb mFull (chF co fig) (u, ln, pg) lost, (if co = 8 then bel + 1 else bel), fb uns co fig, pOb mNl mFull mAdd (chF co fig) (u, ln, pg)) = _
            rw [hlo, hb8, ← hq2]
          have hk7 : ∀ i, (i < 50 ∨ 56 ≤ i) → g3 i = g i := fun i hi => by rw [hg3, va_up_ne _ _ (by omega), hk8 i hi]
          exact m_vret hx hb hr hlocks hI (⟨by rw [hy]; exact ⟨m_25, m_26, m_27, m_28, m_29, m_30⟩, hk7⟩) dX4_print_67
    · refine lv_aload_n hx hb dX4_print_18 rfl (lv_at hl 0 rfl) ?_
      refine lv_dup hx hb dX4_print_19 rfl ?_
      refine m_get (ci := 4) (C := RX4) (T := TX4) (N' := 16) hx hb hts (by decide +kernel) hown hE hI 50 (by omega) h50 rfl 15 (by decide) (hts (.fieldLink RX4 82 "TapePrinterModel" "rang" "I") (by decide +kernel)) rfl dX4_print_20 ?_
      refine lv_iconst (v := nI 1) hx hb dX4_print_23 (by decide) ?_
      refine lv_iadd hx hb dX4_print_24 ?_
      refine m_top (show bel + (nI 1) = bel + 1 from rfl) ?_
      refine m_put (ci := 4) (C := RX4) (T := TX4) (N' := 16) (ty := .int) hx hb hts (by decide +kernel) tyX4 tyX4_ok nmX4 hown hE hI 50 (by omega) h50 rfl 15 (by decide) (hts (.fieldLink RX4 82 "TapePrinterModel" "rang" "I") (by decide +kernel)) rfl (by decide +kernel) rfl rfl (Nat.le_of_ble_eq_true rfl) dX4_print_25 (fun H locs hI => ?_)
      obtain ⟨g4, hg4⟩ : ∃ zz, zz = va_up g 50 (.inr (4, [.int (nI th), .int (bI fig), .int (bI uns), .int (nI play), .int (nI u), .ref (ad 51), .ref (ad 52), .ref (ad 53), .ref (ad 54), .ref (ad 55), .int (nI n), .int (nI rd), .int (nI came), .int mis, .int lost, .int (bel + 1)])) := ⟨_, rfl⟩
      replace hI : mI k ad N g4 (mA ad N s.heap.size) s H locs := by rw [hg4]; exact hI
      have m_31 : g4 50 = .inr (4, [.int (nI th), .int (bI fig), .int (bI uns), .int (nI play), .int (nI u), .ref (ad 51), .ref (ad 52), .ref (ad 53), .ref (ad 54), .ref (ad 55), .int (nI n), .int (nI rd), .int (nI came), .int mis, .int lost, .int (bel + 1)]) := by rw [hg4, va_up_self]
      have m_32 : g4 51 = .inl (k.2.1.1, 20, .inl (fun j => nI (ln j))) := by rw [hg4, va_up_ne _ _ (by omega)]; exact h51
      have m_33 : g4 52 = .inl (k.2.1.1, 800, .inl (fun j => nI (pg j))) := by rw [hg4, va_up_ne _ _ (by omega)]; exact h52
      have m_34 : g4 53 = .inl (k.2.1.1, 16, .inl lat) := by rw [hg4, va_up_ne _ _ (by omega)]; exact h53
      have m_35 : g4 54 = .inl (k.2.1.1, 16, .inl (fun j => nI (gar j))) := by rw [hg4, va_up_ne _ _ (by omega)]; exact h54
      have m_36 : g4 55 = .inl (k.2.1.1, 120, .inl (fun j => nI (T j))) := by rw [hg4, va_up_ne _ _ (by omega)]; exact h55
      refine lv_goto (tgt := 54) hx hb dX4_print_28 (by decide) ?_
      have hch0 : chF co fig = 0 := by rw [c_15, chF_8]
      have hb8 : (if co = 8 then bel + 1 else bel) = bel + 1 := if_pos c_15
      have hpo : pOb mNl mFull mAdd (chF co fig) (u, ln, pg) = (u, ln, pg) := by rw [hch0]; rfl
      have hlo : lOb mFull (chF co fig) (u, ln, pg) lost = lost := by rw [hch0]; rfl
      refine lv_aload_n hx hb dX4_print_54 rfl (lv_at hl 0 rfl) ?_
      refine lv_aload_n hx hb dX4_print_55 rfl (lv_at hl 0 rfl) ?_
      refine lv_aload_n hx hb dX4_print_56 rfl (lv_at hl 0 rfl) ?_
      refine m_get (ci := 4) (C := RX4) (T := TX4) (N' := 16) hx hb hts (by decide +kernel) hown hE hI 50 (by omega) m_31 rfl 1 (by decide) (hts (.fieldLink RX4 60 "TapePrinterModel" "isFigures" "Z") (by decide +kernel)) rfl dX4_print_57 ?_
      refine lv_iload_n hx hb dX4_print_60 rfl (lv_at hl 1 rfl) ?_
      refine m_callVi (As := [.int (bI fig), .int (nI co)]) (rest := [.ref (ad 50)]) ⟨hx, hb, hml, hown, hts⟩ hE hI (c_X4_shift k l ad N g4 _ th uns play rd n lat gar T came mis lost (bel + 1) fig u ln pg fig co (by omega) hW hwf (by omega) ⟨m_31, m_32, m_33, m_34, m_35, m_36⟩ (by omega)) (cwV 2 hts gX4_print_X4_shift rfl rfl rfl (by decide +kernel) ⟨Nat.le_of_ble_eq_true rfl, Nat.le_of_ble_eq_true rfl⟩) (i := 50) (by omega) m_31 rfl rfl hl.1 rfl (Nat.le_of_ble_eq_true rfl) dX4_print_61 ⟨Nat.le_of_ble_eq_true rfl, Nat.le_of_ble_eq_true rfl⟩ (m_deti (fun H locs hI => ?_))
      refine m_put (ci := 4) (C := RX4) (T := TX4) (N' := 16) (ty := .boolean) hx hb hts (by decide +kernel) tyX4 tyX4_ok nmX4 hown hE hI 50 (by omega) m_31 rfl 1 (by decide) (hts (.fieldLink RX4 60 "TapePrinterModel" "isFigures" "Z") (by decide +kernel)) rfl (by decide +kernel) (bI_nar _) (bI_fit _) (Nat.le_of_ble_eq_true rfl) dX4_print_64 (fun H locs hI => ?_)
      obtain ⟨g5, hg5⟩ : ∃ zz, zz = va_up g4 50 (.inr (4, [.int (nI th), .int (bI (fb uns co fig)), .int (bI uns), .int (nI play), .int (nI u), .ref (ad 51), .ref (ad 52), .ref (ad 53), .ref (ad 54), .ref (ad 55), .int (nI n), .int (nI rd), .int (nI came), .int mis, .int lost, .int (bel + 1)])) := ⟨_, rfl⟩
      replace hI : mI k ad N g5 (mA ad N s.heap.size) s H locs := by rw [hg5]; exact hI
      have m_37 : g5 50 = .inr (4, [.int (nI th), .int (bI (fb uns co fig)), .int (bI uns), .int (nI play), .int (nI u), .ref (ad 51), .ref (ad 52), .ref (ad 53), .ref (ad 54), .ref (ad 55), .int (nI n), .int (nI rd), .int (nI came), .int mis, .int lost, .int (bel + 1)]) := by rw [hg5, va_up_self]
      have m_38 : g5 51 = .inl (k.2.1.1, 20, .inl (fun j => nI (ln j))) := by rw [hg5, va_up_ne _ _ (by omega)]; exact m_32
      have m_39 : g5 52 = .inl (k.2.1.1, 800, .inl (fun j => nI (pg j))) := by rw [hg5, va_up_ne _ _ (by omega)]; exact m_33
      have m_40 : g5 53 = .inl (k.2.1.1, 16, .inl lat) := by rw [hg5, va_up_ne _ _ (by omega)]; exact m_34
      have m_41 : g5 54 = .inl (k.2.1.1, 16, .inl (fun j => nI (gar j))) := by rw [hg5, va_up_ne _ _ (by omega)]; exact m_35
      have m_42 : g5 55 = .inl (k.2.1.1, 120, .inl (fun j => nI (T j))) := by rw [hg5, va_up_ne _ _ (by omega)]; exact m_36
      have hy : yOb mNl mFull mAdd uns co (came, mis, lost, bel, fig, u, ln, pg) = (came, mis, lost, bel + 1, fb uns co fig, (u, ln, pg)) := by
        show (came, mis, lOb mFull (chF co fig) (u, ln, pg) lost, (if co = 8 then bel + 1 else bel), fb uns co fig, pOb mNl mFull mAdd (chF co fig) (u, ln, pg)) = _
        rw [hlo, hb8, hpo]
      have hk7 : ∀ i, (i < 50 ∨ 56 ≤ i) → g5 i = g i := fun i hi => by rw [hg5, va_up_ne _ _ (by omega), hg4, va_up_ne _ _ (by omega)]
      exact m_vret hx hb hr hlocks hI (⟨by rw [hy]; exact ⟨m_37, m_38, m_39, m_40, m_41, m_42⟩, hk7⟩) dX4_print_67
  · refine lv_aload_n hx hb dX4_print_5 rfl (lv_at hl 0 rfl) ?_
    refine m_callVv (As := []) (rest := []) ⟨hx, hb, hml, hown, hts⟩ hE hI (c_X4_feed k l ad N g _ th uns play rd n lat gar T came mis lost bel fig u ln pg  (by omega) hW hwf (by omega) ⟨h50, h51, h52, h53, h54, h55⟩ ) (cwV 0 hts gX4_print_X4_feed rfl rfl rfl (by decide +kernel) ⟨Nat.le_of_ble_eq_true rfl, Nat.le_of_ble_eq_true rfl⟩) (i := 50) (by omega) h50 rfl rfl hl.1 rfl (Nat.le_of_ble_eq_true rfl) dX4_print_6 ⟨Nat.le_of_ble_eq_true rfl, Nat.le_of_ble_eq_true rfl⟩ (fun g9 H locs hp hI => ?_)
    obtain ⟨hM8, hk8⟩ := hp
    have hwf8 := mWf_nl hwf
    have hpo : pOb mNl mFull mAdd (chF co fig) (u, ln, pg) = mNl (u, ln, pg) := by unfold pOb; rw [if_pos (by rw [c_2, chF_2])]
    have hlo : lOb mFull (chF co fig) (u, ln, pg) lost = lost := by unfold lOb; rw [if_pos (by rw [c_2, chF_2])]
    have hb8 : (if co = 8 then bel + 1 else bel) = bel := if_neg (by omega)
    rw [← hpo] at hM8 hwf8
    obtain ⟨⟨u2, ln2, pg2⟩, hq2⟩ : ∃ zz, zz = pOb mNl mFull mAdd (chF co fig) (u, ln, pg) := ⟨_, rfl⟩
    rw [← hq2] at hM8 hwf8
    have m_43 : g9 50 = .inr (4, [.int (nI th), .int (bI fig), .int (bI uns), .int (nI play), .int (nI u2), .ref (ad 51), .ref (ad 52), .ref (ad 53), .ref (ad 54), .ref (ad 55), .int (nI n), .int (nI rd), .int (nI came), .int mis, .int lost, .int bel]) := hM8.1
    have m_44 : g9 51 = .inl (k.2.1.1, 20, .inl (fun j => nI (ln2 j))) := hM8.2.1
    have m_45 : g9 52 = .inl (k.2.1.1, 800, .inl (fun j => nI (pg2 j))) := hM8.2.2.1
    have m_46 : g9 53 = .inl (k.2.1.1, 16, .inl lat) := hM8.2.2.2.1
    have m_47 : g9 54 = .inl (k.2.1.1, 16, .inl (fun j => nI (gar j))) := hM8.2.2.2.2.1
    have m_48 : g9 55 = .inl (k.2.1.1, 120, .inl (fun j => nI (T j))) := hM8.2.2.2.2.2
    refine lv_goto (tgt := 54) hx hb dX4_print_9 (by decide) ?_
    refine lv_aload_n hx hb dX4_print_54 rfl (lv_at hl 0 rfl) ?_
    refine lv_aload_n hx hb dX4_print_55 rfl (lv_at hl 0 rfl) ?_
    refine lv_aload_n hx hb dX4_print_56 rfl (lv_at hl 0 rfl) ?_
    refine m_get (ci := 4) (C := RX4) (T := TX4) (N' := 16) hx hb hts (by decide +kernel) hown hE hI 50 (by omega) m_43 rfl 1 (by decide) (hts (.fieldLink RX4 60 "TapePrinterModel" "isFigures" "Z") (by decide +kernel)) rfl dX4_print_57 ?_
    refine lv_iload_n hx hb dX4_print_60 rfl (lv_at hl 1 rfl) ?_
    refine m_callVi (As := [.int (bI fig), .int (nI co)]) (rest := [.ref (ad 50)]) ⟨hx, hb, hml, hown, hts⟩ hE hI (c_X4_shift k l ad N g9 _ th uns play rd n lat gar T came mis lost bel fig u2 ln2 pg2 fig co (by omega) hW hwf8 (by omega) ⟨m_43, m_44, m_45, m_46, m_47, m_48⟩ (by omega)) (cwV 2 hts gX4_print_X4_shift rfl rfl rfl (by decide +kernel) ⟨Nat.le_of_ble_eq_true rfl, Nat.le_of_ble_eq_true rfl⟩) (i := 50) (by omega) m_43 rfl rfl hl.1 rfl (Nat.le_of_ble_eq_true rfl) dX4_print_61 ⟨Nat.le_of_ble_eq_true rfl, Nat.le_of_ble_eq_true rfl⟩ (m_deti (fun H locs hI => ?_))
    refine m_put (ci := 4) (C := RX4) (T := TX4) (N' := 16) (ty := .boolean) hx hb hts (by decide +kernel) tyX4 tyX4_ok nmX4 hown hE hI 50 (by omega) m_43 rfl 1 (by decide) (hts (.fieldLink RX4 60 "TapePrinterModel" "isFigures" "Z") (by decide +kernel)) rfl (by decide +kernel) (bI_nar _) (bI_fit _) (Nat.le_of_ble_eq_true rfl) dX4_print_64 (fun H locs hI => ?_)
    obtain ⟨g6, hg6⟩ : ∃ zz, zz = va_up g9 50 (.inr (4, [.int (nI th), .int (bI (fb uns co fig)), .int (bI uns), .int (nI play), .int (nI u2), .ref (ad 51), .ref (ad 52), .ref (ad 53), .ref (ad 54), .ref (ad 55), .int (nI n), .int (nI rd), .int (nI came), .int mis, .int lost, .int bel])) := ⟨_, rfl⟩
    replace hI : mI k ad N g6 (mA ad N s.heap.size) s H locs := by rw [hg6]; exact hI
    have m_49 : g6 50 = .inr (4, [.int (nI th), .int (bI (fb uns co fig)), .int (bI uns), .int (nI play), .int (nI u2), .ref (ad 51), .ref (ad 52), .ref (ad 53), .ref (ad 54), .ref (ad 55), .int (nI n), .int (nI rd), .int (nI came), .int mis, .int lost, .int bel]) := by rw [hg6, va_up_self]
    have m_50 : g6 51 = .inl (k.2.1.1, 20, .inl (fun j => nI (ln2 j))) := by rw [hg6, va_up_ne _ _ (by omega)]; exact m_44
    have m_51 : g6 52 = .inl (k.2.1.1, 800, .inl (fun j => nI (pg2 j))) := by rw [hg6, va_up_ne _ _ (by omega)]; exact m_45
    have m_52 : g6 53 = .inl (k.2.1.1, 16, .inl lat) := by rw [hg6, va_up_ne _ _ (by omega)]; exact m_46
    have m_53 : g6 54 = .inl (k.2.1.1, 16, .inl (fun j => nI (gar j))) := by rw [hg6, va_up_ne _ _ (by omega)]; exact m_47
    have m_54 : g6 55 = .inl (k.2.1.1, 120, .inl (fun j => nI (T j))) := by rw [hg6, va_up_ne _ _ (by omega)]; exact m_48
    have hy : yOb mNl mFull mAdd uns co (came, mis, lost, bel, fig, u, ln, pg) = (came, mis, lost, bel, fb uns co fig, (u2, ln2, pg2)) := by
      show (came, mis, lOb mFull (chF co fig) (u, ln, pg) lost, (if co = 8 then bel + 1 else bel), fb uns co fig, pOb mNl mFull mAdd (chF co fig) (u, ln, pg)) = _
      rw [hlo, hb8, ← hq2]
    have hk7 : ∀ i, (i < 50 ∨ 56 ≤ i) → g6 i = g i := fun i hi => by rw [hg6, va_up_ne _ _ (by omega), hk8 i hi]
    exact m_vret hx hb hr hlocks hI (⟨by rw [hy]; exact ⟨m_49, m_50, m_51, m_52, m_53, m_54⟩, hk7⟩) dX4_print_67
