theorem mWf_in {uns : Bool} {play : Nat} {lat : Nat → Int32} {gar : Nat → Nat} {co : Nat} {y : YT PM} (h : mWf y.2.2.2.2.2) : mWf (yIn mNl mFull mAdd uns play lat gar co y).2.2.2.2.2 := mWf_ob h
theorem mWf_run {uns : Bool} {play : Nat} {lat : Nat → Int32} {gar T : Nat → Nat} {rd : Nat} {y : YT PM} (h : mWf y.2.2.2.2.2) (m : Nat) : mWf (yRun mNl mFull mAdd uns play lat gar T rd y m).2.2.2.2.2 := by
  induction m with
  | zero => exact h
  | succ m ih => exact mWf_in ih
set_option maxHeartbeats 8000000 in
set_option maxRecDepth 100000 in
theorem c_X4_run (k : mC) (l : Launch) (ad : Nat → Nat) (N : Nat) (g : Nat → va_E) (sz : Nat) (th : Nat) (uns : Bool) (play rd n : Nat) (lat : Nat → Int32) (gar T : Nat → Nat) (came : Nat) (mis lost bel : Int32) (fig : Bool) (u : Nat) (ln pg : Nat → Nat) (p0 : Int32) (hN : 56 ≤ N) (hW : CW play rd n lat gar T) (hwf : mWf (u, ln, pg)) (hcame : came < 2000000000) (hM0 : MR k ad g th uns play rd n lat gar T (came, mis, lost, bel, fig, u, ln, pg))  : mCi k l yX4_run wsX4_run { frames := 4, cells := 0, slots := 0, locals := 103 } ad N g sz [.ref (ad 50), .int p0] (fun r1 g1 => ((in120 p0 = true ∧ r1 = nI (min (tn p0) (n - rd)) ∧ MR k ad g1 0 uns play (rd + min (tn p0) (n - rd)) n lat gar T (yRun mNl mFull mAdd uns play lat gar T rd (came, mis, lost, bel, fig, u, ln, pg) (min (tn p0) (n - rd)))) ∨ (in120 p0 = false ∧ MR k ad g1 1 uns play rd n lat gar T (came, mis, lost, bel, fig, u, ln, pg))) ∧ ∀ i, (i < 50 ∨ 56 ≤ i) → g1 i = g i) := by
  refine mOf (Qc := fun z9 => va_Qi (fun r1 g1 => ((in120 p0 = true ∧ r1 = nI (min (tn p0) (n - rd)) ∧ MR k ad g1 0 uns play (rd + min (tn p0) (n - rd)) n lat gar T (yRun mNl mFull mAdd uns play lat gar T rd (came, mis, lost, bel, fig, u, ln, pg) (min (tn p0) (n - rd)))) ∨ (in120 p0 = false ∧ MR k ad g1 1 uns play rd n lat gar T (came, mis, lost, bel, fig, u, ln, pg))) ∧ ∀ i, (i < 50 ∨ 56 ≤ i) → g1 i = g i) (mB k ad N) (mA ad N z9)) (cc := cX4_run) (maxL := 4) (ret := (some .int)) (by decide) rfl (Nat.le_of_ble_eq_true rfl) ?_
  intro p e s m below meth c hx hb hr hts hown hlocks hml hin hE hI ls hl
  have hl : lv_has ls 4 [(0, .ref (ad 50)), (1, .int p0)] := hl
  have h50 : g 50 = .inr (4, [.int (nI th), .int (bI fig), .int (bI uns), .int (nI play), .int (nI u), .ref (ad 51), .ref (ad 52), .ref (ad 53), .ref (ad 54), .ref (ad 55), .int (nI n), .int (nI rd), .int (nI came), .int mis, .int lost, .int bel]) := hM0.1
  have h51 : g 51 = .inl (k.2.1.1, 20, .inl (fun j => nI (ln j))) := hM0.2.1
  have h52 : g 52 = .inl (k.2.1.1, 800, .inl (fun j => nI (pg j))) := hM0.2.2.1
  have h53 : g 53 = .inl (k.2.1.1, 16, .inl lat) := hM0.2.2.2.1
  have h54 : g 54 = .inl (k.2.1.1, 16, .inl (fun j => nI (gar j))) := hM0.2.2.2.2.1
  have h55 : g 55 = .inl (k.2.1.1, 120, .inl (fun j => nI (T j))) := hM0.2.2.2.2.2
  obtain ⟨hplay, hrd, hn, hgar, hT, hlat⟩ := id hW
  have hu0 : 0 < u := hwf.1
  have hu : u ≤ 20 := hwf.2.1
  have hln : ∀ j, j < 20 → ln j ≤ 40 := hwf.2.2
  refine lv_aload_n hx hb dX4_run_0 rfl (lv_at hl 0 rfl) ?_
  refine lv_iconst (v := nI 0) hx hb dX4_run_1 (by decide) ?_
  refine m_put (ci := 4) (C := RX4) (T := TX4) (N' := 16) (ty := .int) hx hb hts (by decide +kernel) tyX4 tyX4_ok nmX4 hown hE hI 50 (by omega) h50 rfl 0 (by decide) (hts (.fieldLink RX4 29 "TapePrinterModel" "thrown" "I") (by decide +kernel)) rfl (by decide +kernel) rfl rfl (Nat.le_of_ble_eq_true rfl) dX4_run_2 (fun H locs hI => ?_)
  obtain ⟨g1, hg1⟩ : ∃ zz, zz = va_up g 50 (.inr (4, [.int (nI 0), .int (bI fig), .int (bI uns), .int (nI play), .int (nI u), .ref (ad 51), .ref (ad 52), .ref (ad 53), .ref (ad 54), .ref (ad 55), .int (nI n), .int (nI rd), .int (nI came), .int mis, .int lost, .int bel])) := ⟨_, rfl⟩
  replace hI : mI k ad N g1 (mA ad N s.heap.size) s H locs := by rw [hg1]; exact hI
  have m_1 : g1 50 = .inr (4, [.int (nI 0), .int (bI fig), .int (bI uns), .int (nI play), .int (nI u), .ref (ad 51), .ref (ad 52), .ref (ad 53), .ref (ad 54), .ref (ad 55), .int (nI n), .int (nI rd), .int (nI came), .int mis, .int lost, .int bel]) := by rw [hg1, va_up_self]
  have m_2 : g1 51 = .inl (k.2.1.1, 20, .inl (fun j => nI (ln j))) := by rw [hg1, va_up_ne _ _ (by omega)]; exact h51
  have m_3 : g1 52 = .inl (k.2.1.1, 800, .inl (fun j => nI (pg j))) := by rw [hg1, va_up_ne _ _ (by omega)]; exact h52
  have m_4 : g1 53 = .inl (k.2.1.1, 16, .inl lat) := by rw [hg1, va_up_ne _ _ (by omega)]; exact h53
  have m_5 : g1 54 = .inl (k.2.1.1, 16, .inl (fun j => nI (gar j))) := by rw [hg1, va_up_ne _ _ (by omega)]; exact h54
  have m_6 : g1 55 = .inl (k.2.1.1, 120, .inl (fun j => nI (T j))) := by rw [hg1, va_up_ne _ _ (by omega)]; exact h55
  refine lv_iload_n hx hb dX4_run_5 rfl (lv_at hl 1 rfl) ?_
  refine lv_iconst (v := nI 1) hx hb dX4_run_6 (by decide) ?_
  refine lv_bipush (v := nI 120) hx hb dX4_run_7 (by decide) ?_
  refine m_callSi (As := [.int p0, .int (nI 1), .int (nI 120)]) (rest := []) ⟨hx, hb, hml, hown, hts⟩ hE hI (c_X4_isIn k l ad N g1 _ p0 (nI 1) (nI 120)) (va_cwS 3 hts gX4_run_X4_isIn rfl rfl rfl (by decide +kernel) ⟨Nat.le_of_ble_eq_true rfl, Nat.le_of_ble_eq_true rfl⟩) rfl hl.1 rfl (Nat.le_of_ble_eq_true rfl) dX4_run_9 ⟨Nat.le_of_ble_eq_true rfl, Nat.le_of_ble_eq_true rfl⟩ (m_deti (fun H locs hI => ?_))
  refine m_top (show bI (decide (nI 1 ≤ p0) && decide (p0 ≤ nI 120)) = bI (in120 p0) from by rw [isIn_120]) ?_
  refine m_zneB (tgt := 21) hx hb dX4_run_12 (by decide) (fun c_12 => ?_) (fun c_12 => ?_)
  · obtain ⟨j, h1j, hj, rfl⟩ := in120_ex c_12
    have htnj := tn_nI (j := j) (by omega)
    have hl : lv_has ls 4 [(0, .ref (ad 50)), (1, .int (nI j))] := hl
    refine lv_iload_n hx hb dX4_run_21 rfl (lv_at hl 1 rfl) ?_
    refine lv_aload_n hx hb dX4_run_22 rfl (lv_at hl 0 rfl) ?_
    refine m_get (ci := 4) (C := RX4) (T := TX4) (N' := 16) hx hb hts (by decide +kernel) hown hE hI 50 (by omega) m_1 rfl 10 (by decide) (hts (.fieldLink RX4 109 "TapePrinterModel" "codes" "I") (by decide +kernel)) rfl dX4_run_23 ?_
    refine lv_aload_n hx hb dX4_run_26 rfl (lv_at hl 0 rfl) ?_
    refine m_get (ci := 4) (C := RX4) (T := TX4) (N' := 16) hx hb hts (by decide +kernel) hown hE hI 50 (by omega) m_1 rfl 11 (by decide) (hts (.fieldLink RX4 121 "TapePrinterModel" "reader" "I") (by decide +kernel)) rfl dX4_run_27 ?_
    refine m_isubN hx hb (by omega) dX4_run_30 ?_
    refine va_mmin hx hb (hml.trans hl.1.symm) hown (hts (.methodLink RX4 124 Lib.Math.min.name) (by decide +kernel)) (hts (.static Lib.Math.min.name) (by decide +kernel)) (hts (.initialized "java/lang/Math") (by decide +kernel)) (hts (.code Lib.Math.min.name Lib.Math.min.code 2 (some .int)) (by decide +kernel)) (Nat.le_of_ble_eq_true rfl) (Nat.le_of_ble_eq_true rfl) (Nat.zero_le _) (Nat.zero_le _) dX4_run_31 ?_
    refine m_top (min_nI (a := j) (b := n - rd) (by omega) (by omega)) ?_
    obtain ⟨mm, hmm⟩ : ∃ zz, zz = min j (n - rd) := ⟨_, rfl⟩
    rw [← hmm]
    have hmj : mm ≤ j := by omega
    have hmn : mm ≤ n - rd := by omega
    have hM1 : MR k ad g1 0 uns play rd n lat gar T (came, mis, lost, bel, fig, u, ln, pg) := ⟨m_1, m_2, m_3, m_4, m_5, m_6⟩
    have hk1 : ∀ i, (i < 50 ∨ 56 ≤ i) → g1 i = g i := fun i hi => by rw [hg1, va_up_ne _ _ (by omega)]
    refine lv_istore_n (lv' := [(2, .int (nI mm)), (0, .ref (ad 50)), (1, .int (nI j))]) hx hb dX4_run_34 rfl hl (by decide) rfl (fun ls hl => ?_)
    refine lv_iconst (v := nI 0) hx hb dX4_run_35 (by decide) ?_
    refine lv_istore_n (lv' := [(3, .int (nI 0)), (2, .int (nI mm)), (0, .ref (ad 50)), (1, .int (nI j))]) hx hb dX4_run_36 rfl hl (by decide) rfl (fun ls hl => ?_)
    refine m_loop (σ := Nat × (Nat → va_E)) (fun ⟨i, gi⟩ => i ≤ mm ∧ MR k ad gi 0 uns play rd n lat gar T (yRun mNl mFull mAdd uns play lat gar T rd (came, mis, lost, bel, fig, u, ln, pg) i) ∧ ∀ q, (q < 50 ∨ 56 ≤ q) → gi q = g q) (fun ⟨i, gi⟩ => mm - i) (fun ⟨i, gi⟩ => gi) (fun ⟨i, gi⟩ => [(0, .ref (ad 50)), (2, .int (nI mm)), (3, .int (nI i))]) (nL := 4) (0, g1) ⟨Nat.zero_le _, hM1, hk1⟩ hI (lv_sub hl [2, 1, 0] rfl) ?_
    rintro ⟨i, gi⟩ ⟨him, hMi, hki⟩ ih37 H locs ls hI hl
    have hI : mI k ad N gi (mA ad N s.heap.size) s H locs := hI
    have hl : lv_has ls 4 [(0, .ref (ad 50)), (2, .int (nI mm)), (3, .int (nI i))] := hl
    obtain ⟨g2, hg2⟩ : ∃ zz, zz = gi := ⟨_, rfl⟩
    replace hI : mI k ad N g2 (mA ad N s.heap.size) s H locs := by rw [hg2]; exact hI
    have hgi := hg2
    rw [← hg2] at hMi
    obtain ⟨yv, hyv⟩ : ∃ yv, yv = yRun mNl mFull mAdd uns play lat gar T rd (came, mis, lost, bel, fig, u, ln, pg) i := ⟨_, rfl⟩
    have hy1 := yRun_1 (nl := mNl) (full := mFull) (add := mAdd) (uns := uns) (play := play) (lat := lat) (gar := gar) (T := T) (rd := rd) (y := (came, mis, lost, bel, fig, u, ln, pg)) i
    have hwf1 := mWf_run (uns := uns) (play := play) (lat := lat) (gar := gar) (T := T) (rd := rd) (y := (came, mis, lost, bel, fig, u, ln, pg)) hwf i
    have hMi9 := hMi
    rw [← hyv] at hy1 hwf1 hMi9
    obtain ⟨ca1, mi1, lo1, be1, fg1, u1, ln1, pg1⟩ := yv
    have hy2 : ca1 = came + i := hy1
    have hwf2 : mWf (u1, ln1, pg1) := hwf1
    have n50 : g2 50 = .inr (4, [.int (nI 0), .int (bI fg1), .int (bI uns), .int (nI play), .int (nI u1), .ref (ad 51), .ref (ad 52), .ref (ad 53), .ref (ad 54), .ref (ad 55), .int (nI n), .int (nI rd), .int (nI ca1), .int mi1, .int lo1, .int be1]) := hMi9.1
    have n51 : g2 51 = .inl (k.2.1.1, 20, .inl (fun j => nI (ln1 j))) := hMi9.2.1
    have n52 : g2 52 = .inl (k.2.1.1, 800, .inl (fun j => nI (pg1 j))) := hMi9.2.2.1
    have n53 : g2 53 = .inl (k.2.1.1, 16, .inl lat) := hMi9.2.2.2.1
    have n54 : g2 54 = .inl (k.2.1.1, 16, .inl (fun j => nI (gar j))) := hMi9.2.2.2.2.1
    have n55 : g2 55 = .inl (k.2.1.1, 120, .inl (fun j => nI (T j))) := hMi9.2.2.2.2.2
    refine lv_iload_n hx hb dX4_run_37 rfl (lv_at hl 2 rfl) ?_
    refine lv_iload_n hx hb dX4_run_38 rfl (lv_at hl 1 rfl) ?_
    refine m_cgeN (tgt := 64) hx hb (by omega) (by omega) dX4_run_39 (by decide) (fun c_39 => ?_) (fun c_39 => ?_)
    · have him2 : i = mm := by omega
      rw [him2] at hyv
      refine lv_aload_n hx hb dX4_run_64 rfl (lv_at hl 0 rfl) ?_
      refine lv_dup hx hb dX4_run_65 rfl ?_
      refine m_get (ci := 4) (C := RX4) (T := TX4) (N' := 16) hx hb hts (by decide +kernel) hown hE hI 50 (by omega) n50 rfl 11 (by decide) (hts (.fieldLink RX4 121 "TapePrinterModel" "reader" "I") (by decide +kernel)) rfl dX4_run_66 ?_
      refine lv_iload_n hx hb dX4_run_69 rfl (lv_at hl 1 rfl) ?_
      refine m_iaddN hx hb dX4_run_70 ?_
      refine m_put (ci := 4) (C := RX4) (T := TX4) (N' := 16) (ty := .int) hx hb hts (by decide +kernel) tyX4 tyX4_ok nmX4 hown hE hI 50 (by omega) n50 rfl 11 (by decide) (hts (.fieldLink RX4 121 "TapePrinterModel" "reader" "I") (by decide +kernel)) rfl (by decide +kernel) rfl rfl (Nat.le_of_ble_eq_true rfl) dX4_run_71 (fun H locs hI => ?_)
      obtain ⟨g3, hg3⟩ : ∃ zz, zz = va_up g2 50 (.inr (4, [.int (nI 0), .int (bI fg1), .int (bI uns), .int (nI play), .int (nI u1), .ref (ad 51), .ref (ad 52), .ref (ad 53), .ref (ad 54), .ref (ad 55), .int (nI n), .int (nI (rd + mm)), .int (nI ca1), .int mi1, .int lo1, .int be1])) := ⟨_, rfl⟩
      replace hI : mI k ad N g3 (mA ad N s.heap.size) s H locs := by rw [hg3]; exact hI
      have m_7 : g3 50 = .inr (4, [.int (nI 0), .int (bI fg1), .int (bI uns), .int (nI play), .int (nI u1), .ref (ad 51), .ref (ad 52), .ref (ad 53), .ref (ad 54), .ref (ad 55), .int (nI n), .int (nI (rd + mm)), .int (nI ca1), .int mi1, .int lo1, .int be1]) := by rw [hg3, va_up_self]
      have m_8 : g3 51 = .inl (k.2.1.1, 20, .inl (fun j => nI (ln1 j))) := by rw [hg3, va_up_ne _ _ (by omega)]; exact n51
      have m_9 : g3 52 = .inl (k.2.1.1, 800, .inl (fun j => nI (pg1 j))) := by rw [hg3, va_up_ne _ _ (by omega)]; exact n52
      have m_10 : g3 53 = .inl (k.2.1.1, 16, .inl lat) := by rw [hg3, va_up_ne _ _ (by omega)]; exact n53
      have m_11 : g3 54 = .inl (k.2.1.1, 16, .inl (fun j => nI (gar j))) := by rw [hg3, va_up_ne _ _ (by omega)]; exact n54
      have m_12 : g3 55 = .inl (k.2.1.1, 120, .inl (fun j => nI (T j))) := by rw [hg3, va_up_ne _ _ (by omega)]; exact n55
      refine lv_iload_n hx hb dX4_run_74 rfl (lv_at hl 1 rfl) ?_
      exact m_iret hx hb hr hlocks hI (⟨Or.inl (⟨c_12, by rw [htnj, hmm], by rw [htnj, ← hmm, ← hyv]; exact ⟨m_7, m_8, m_9, m_10, m_11, m_12⟩⟩), fun q hq => by rw [hg3, va_up_ne _ _ (by omega), hgi]; exact hki q hq⟩) dX4_run_75
    · refine lv_aload_n hx hb dX4_run_42 rfl (lv_at hl 0 rfl) ?_
      refine lv_aload_n hx hb dX4_run_43 rfl (lv_at hl 0 rfl) ?_
      refine m_get (ci := 4) (C := RX4) (T := TX4) (N' := 16) hx hb hts (by decide +kernel) hown hE hI 50 (by omega) n50 rfl 9 (by decide) (hts (.fieldLink RX4 26 "TapePrinterModel" "tape" "[I") (by decide +kernel)) rfl dX4_run_44 ?_
      refine lv_aload_n hx hb dX4_run_47 rfl (lv_at hl 0 rfl) ?_
      refine m_get (ci := 4) (C := RX4) (T := TX4) (N' := 16) hx hb hts (by decide +kernel) hown hE hI 50 (by omega) n50 rfl 11 (by decide) (hts (.fieldLink RX4 121 "TapePrinterModel" "reader" "I") (by decide +kernel)) rfl dX4_run_48 ?_
      refine lv_iload_n hx hb dX4_run_51 rfl (lv_at hl 2 rfl) ?_
      refine m_iaddN hx hb dX4_run_52 ?_
      refine m_iald hx hb hE hI 55 (by omega) (j := rd + i) n55 (by omega) (by omega) dX4_run_53 ?_
      refine m_top (show (fun j => nI (T j)) (rd + i) = nI (T (rd + i)) from rfl) ?_
      have ht_13 := hT (rd + i)
      refine m_callVi (As := [.int (nI (T (rd + i)))]) (rest := []) ⟨hx, hb, hml, hown, hts⟩ hE hI (c_X4_come k l ad N g2 _ 0 uns play rd n lat gar T ca1 mi1 lo1 be1 fg1 u1 ln1 pg1 (T (rd + i)) (by omega) hW hwf2 (by omega) ⟨n50, n51, n52, n53, n54, n55⟩ (hT _)) (cwV 1 hts gX4_run_X4_come rfl rfl rfl (by decide +kernel) ⟨Nat.le_of_ble_eq_true rfl, Nat.le_of_ble_eq_true rfl⟩) (i := 50) (by omega) n50 rfl rfl hl.1 rfl (Nat.le_of_ble_eq_true rfl) dX4_run_54 ⟨Nat.le_of_ble_eq_true rfl, Nat.le_of_ble_eq_true rfl⟩ (fun r9 g9 H locs hp hI => ?_)
      obtain ⟨hrr, hM8, hk8⟩ := hp
      subst hrr
      have hyn : yIn mNl mFull mAdd uns play lat gar (T (rd + i)) (ca1, mi1, lo1, be1, fg1, u1, ln1, pg1) = yRun mNl mFull mAdd uns play lat gar T rd (came, mis, lost, bel, fig, u, ln, pg) (i + 1) := by rw [hyv]; rfl
      rw [hyn] at hM8
      have hk7 : ∀ i, (i < 50 ∨ 56 ≤ i) → g9 i = g i := fun q hq => by rw [hk8 q hq, hgi]; exact hki q hq
      refine lv_pop hx hb dX4_run_57 rfl ?_
      refine lv_iinc (v := nI (i + 1)) (lv' := [(3, .int (nI (i + 1))), (0, .ref (ad 50)), (2, .int (nI mm))]) hx hb dX4_run_58 hl (k := 2) rfl (nI_add i 1) (by decide) rfl (fun ls hl => ?_)
      refine lv_goto (tgt := 37) hx hb dX4_run_61 (by decide) ?_
      exact ih37 (i + 1, g9) ⟨by omega, hM8, hk7⟩ (show mm - (i + 1) < mm - i by omega) _ _ _ hI (lv_sub hl [1, 2, 0] rfl)
  · refine lv_aload_n hx hb dX4_run_15 rfl (lv_at hl 0 rfl) ?_
    refine lv_iconst (v := nI 1) hx hb dX4_run_16 (by decide) ?_
    refine m_callVi (As := [.int (nI 1)]) (rest := []) ⟨hx, hb, hml, hown, hts⟩ hE hI (c_X4_fail k l ad N g1 _ 0 uns play rd n lat gar T came mis lost bel fig u ln pg 1 (by omega) hW hwf (by omega) ⟨m_1, m_2, m_3, m_4, m_5, m_6⟩ ) (cwV 1 hts gX4_run_X4_fail rfl rfl rfl (by decide +kernel) ⟨Nat.le_of_ble_eq_true rfl, Nat.le_of_ble_eq_true rfl⟩) (i := 50) (by omega) m_1 rfl rfl hl.1 rfl (Nat.le_of_ble_eq_true rfl) dX4_run_17 ⟨Nat.le_of_ble_eq_true rfl, Nat.le_of_ble_eq_true rfl⟩ (m_deti (fun H locs hI => ?_))
    obtain ⟨g4, hg4⟩ : ∃ zz, zz = va_up g1 50 (.inr (4, [.int (nI 1), .int (bI fig), .int (bI uns), .int (nI play), .int (nI u), .ref (ad 51), .ref (ad 52), .ref (ad 53), .ref (ad 54), .ref (ad 55), .int (nI n), .int (nI rd), .int (nI came), .int mis, .int lost, .int bel])) := ⟨_, rfl⟩
    replace hI : mI k ad N g4 (mA ad N s.heap.size) s H locs := by rw [hg4]; exact hI
    have m_14 : g4 50 = .inr (4, [.int (nI 1), .int (bI fig), .int (bI uns), .int (nI play), .int (nI u), .ref (ad 51), .ref (ad 52), .ref (ad 53), .ref (ad 54), .ref (ad 55), .int (nI n), .int (nI rd), .int (nI came), .int mis, .int lost, .int bel]) := by rw [hg4, va_up_self]
    have m_15 : g4 51 = .inl (k.2.1.1, 20, .inl (fun j => nI (ln j))) := by rw [hg4, va_up_ne _ _ (by omega)]; exact m_2
    have m_16 : g4 52 = .inl (k.2.1.1, 800, .inl (fun j => nI (pg j))) := by rw [hg4, va_up_ne _ _ (by omega)]; exact m_3
    have m_17 : g4 53 = .inl (k.2.1.1, 16, .inl lat) := by rw [hg4, va_up_ne _ _ (by omega)]; exact m_4
    have m_18 : g4 54 = .inl (k.2.1.1, 16, .inl (fun j => nI (gar j))) := by rw [hg4, va_up_ne _ _ (by omega)]; exact m_5
    have m_19 : g4 55 = .inl (k.2.1.1, 120, .inl (fun j => nI (T j))) := by rw [hg4, va_up_ne _ _ (by omega)]; exact m_6
    exact m_iret hx hb hr hlocks hI (⟨Or.inr (⟨c_12, ⟨m_14, m_15, m_16, m_17, m_18, m_19⟩⟩), fun i hi => by rw [hg4, va_up_ne _ _ (by omega), hg1, va_up_ne _ _ (by omega)]⟩) dX4_run_20
set_option maxHeartbeats 8000000 in
set_option maxRecDepth 100000 in
theorem c_X4_digest (k : mC) (l : Launch) (ad : Nat → Nat) (N : Nat) (g : Nat → va_E) (sz : Nat) (th : Nat) (uns : Bool) (play rd n : Nat) (lat : Nat → Int32) (gar T : Nat → Nat) (came : Nat) (mis lost bel : Int32) (fig : Bool) (u : Nat) (ln pg : Nat → Nat)  (hN : 56 ≤ N) (hW : CW play rd n lat gar T) (hwf : mWf (u, ln, pg)) (hcame : came < 2000000000) (hM0 : MR k ad g th uns play rd n lat gar T (came, mis, lost, bel, fig, u, ln, pg))  : mCl k l yX4_digest wsX4_digest { frames := 1, cells := 0, slots := 0, locals := 23 } ad N g sz [.ref (ad 50)] (fun r1 g1 => (r1 = dgA (cntV u (sumL ln u) fig play n rd came mis lost uns bel) lat (fun j => nI (gar j)) u ln (fun l1 i1 => nI (pg (40 * l1 + i1))) n (fun j => nI (T j)) ∧ MR k ad g1 0 uns play rd n lat gar T (came, mis, lost, bel, fig, u, ln, pg)) ∧ ∀ i, (i < 50 ∨ 56 ≤ i) → g1 i = g i) := by
  refine mOf (Qc := fun z9 => va_Ql (fun r1 g1 => (r1 = dgA (cntV u (sumL ln u) fig play n rd came mis lost uns bel) lat (fun j => nI (gar j)) u ln (fun l1 i1 => nI (pg (40 * l1 + i1))) n (fun j => nI (T j)) ∧ MR k ad g1 0 uns play rd n lat gar T (came, mis, lost, bel, fig, u, ln, pg)) ∧ ∀ i, (i < 50 ∨ 56 ≤ i) → g1 i = g i) (mB k ad N) (mA ad N z9)) (cc := cX4_digest) (maxL := 5) (ret := (some .long)) (by decide) rfl (Nat.le_of_ble_eq_true rfl) ?_
  intro p e s m below meth c hx hb hr hts hown hlocks hml hin hE hI ls hl
  have hl : lv_has ls 5 [(0, .ref (ad 50))] := hl
  have h50 : g 50 = .inr (4, [.int (nI th), .int (bI fig), .int (bI uns), .int (nI play), .int (nI u), .ref (ad 51), .ref (ad 52), .ref (ad 53), .ref (ad 54), .ref (ad 55), .int (nI n), .int (nI rd), .int (nI came), .int mis, .int lost, .int bel]) := hM0.1
  have h51 : g 51 = .inl (k.2.1.1, 20, .inl (fun j => nI (ln j))) := hM0.2.1
  have h52 : g 52 = .inl (k.2.1.1, 800, .inl (fun j => nI (pg j))) := hM0.2.2.1
  have h53 : g 53 = .inl (k.2.1.1, 16, .inl lat) := hM0.2.2.2.1
  have h54 : g 54 = .inl (k.2.1.1, 16, .inl (fun j => nI (gar j))) := hM0.2.2.2.2.1
  have h55 : g 55 = .inl (k.2.1.1, 120, .inl (fun j => nI (T j))) := hM0.2.2.2.2.2
  obtain ⟨hplay, hrd, hn, hgar, hT, hlat⟩ := id hW
  have hu0 : 0 < u := hwf.1
  have hu : u ≤ 20 := hwf.2.1
  have hln : ∀ j, j < 20 → ln j ≤ 40 := hwf.2.2
  refine lv_aload_n hx hb dX4_digest_0 rfl (lv_at hl 0 rfl) ?_
  refine lv_iconst (v := nI 0) hx hb dX4_digest_1 (by decide) ?_
  refine m_put (ci := 4) (C := RX4) (T := TX4) (N' := 16) (ty := .int) hx hb hts (by decide +kernel) tyX4 tyX4_ok nmX4 hown hE hI 50 (by omega) h50 rfl 0 (by decide) (hts (.fieldLink RX4 29 "TapePrinterModel" "thrown" "I") (by decide +kernel)) rfl (by decide +kernel) rfl rfl (Nat.le_of_ble_eq_true rfl) dX4_digest_2 (fun H locs hI => ?_)
  obtain ⟨g1, hg1⟩ : ∃ zz, zz = va_up g 50 (.inr (4, [.int (nI 0), .int (bI fig), .int (bI uns), .int (nI play), .int (nI u), .ref (ad 51), .ref (ad 52), .ref (ad 53), .ref (ad 54), .ref (ad 55), .int (nI n), .int (nI rd), .int (nI came), .int mis, .int lost, .int bel])) := ⟨_, rfl⟩
  replace hI : mI k ad N g1 (mA ad N s.heap.size) s H locs := by rw [hg1]; exact hI
  have m_1 : g1 50 = .inr (4, [.int (nI 0), .int (bI fig), .int (bI uns), .int (nI play), .int (nI u), .ref (ad 51), .ref (ad 52), .ref (ad 53), .ref (ad 54), .ref (ad 55), .int (nI n), .int (nI rd), .int (nI came), .int mis, .int lost, .int bel]) := by rw [hg1, va_up_self]
  have m_2 : g1 51 = .inl (k.2.1.1, 20, .inl (fun j => nI (ln j))) := by rw [hg1, va_up_ne _ _ (by omega)]; exact h51
  have m_3 : g1 52 = .inl (k.2.1.1, 800, .inl (fun j => nI (pg j))) := by rw [hg1, va_up_ne _ _ (by omega)]; exact h52
  have m_4 : g1 53 = .inl (k.2.1.1, 16, .inl lat) := by rw [hg1, va_up_ne _ _ (by omega)]; exact h53
  have m_5 : g1 54 = .inl (k.2.1.1, 16, .inl (fun j => nI (gar j))) := by rw [hg1, va_up_ne _ _ (by omega)]; exact h54
  have m_6 : g1 55 = .inl (k.2.1.1, 120, .inl (fun j => nI (T j))) := by rw [hg1, va_up_ne _ _ (by omega)]; exact h55
  refine lv_ldc2 (v := (1373)) hx hb hown (hts (.constantLong RX4 141 (1373)) (by decide +kernel)) dX4_digest_5 ?_
  refine lv_lstore_n (lv' := [(1, .long ((1373))), (0, .ref (ad 50))]) hx hb dX4_digest_8 rfl hl (by decide) rfl (fun ls hl => ?_)
  refine lv_iconst (v := nI 0) hx hb dX4_digest_9 (by decide) ?_
  refine lv_istore_n (lv' := [(3, .int (nI 0)), (1, .long ((1373))), (0, .ref (ad 50))]) hx hb dX4_digest_10 rfl hl (by decide) rfl (fun ls hl => ?_)
  refine m_loop (σ := Nat) (fun i => i ≤ 11) (fun i => 11 - i) (fun i => g1) (fun i => [(0, .ref (ad 50)), (1, .long (dg1 (cntV u (sumL ln u) fig play n rd came mis lost uns bel) 1373 i)), (3, .int (nI i))]) (nL := 5) 0 (Nat.zero_le _) hI (lv_sub hl [2, 1, 0] rfl) ?_
  rintro i hil ih11 H locs ls hI hl
  have hI : mI k ad N g1 (mA ad N s.heap.size) s H locs := hI
  have hl : lv_has ls 5 [(0, .ref (ad 50)), (1, .long (dg1 (cntV u (sumL ln u) fig play n rd came mis lost uns bel) 1373 i)), (3, .int (nI i))] := hl
  refine lv_iload_n hx hb dX4_digest_11 rfl (lv_at hl 2 rfl) ?_
  refine lv_bipush (v := nI 11) hx hb dX4_digest_12 (by decide) ?_
  refine m_cgeN (tgt := 36) hx hb (by omega) (by omega) dX4_digest_14 (by decide) (fun c_14 => ?_) (fun c_14 => ?_)
  · have hi9 : i = 11 := by omega
    subst hi9
    refine lv_iconst (v := nI 0) hx hb dX4_digest_36 (by decide) ?_
    refine lv_istore_n (lv' := [(3, .int (nI 0)), (0, .ref (ad 50)), (1, .long (dg1 (cntV u (sumL ln u) fig play n rd came mis lost uns bel) 1373 11))]) hx hb dX4_digest_37 rfl hl (by decide) rfl (fun ls hl => ?_)
    refine m_loop (σ := Nat) (fun i => i ≤ 16) (fun i => 16 - i) (fun i => g1) (fun i => [(0, .ref (ad 50)), (1, .long (dg2 lat (fun j => nI (gar j)) (dg1 (cntV u (sumL ln u) fig play n rd came mis lost uns bel) 1373 11) i)), (3, .int (nI i))]) (nL := 5) 0 (Nat.zero_le _) hI (lv_sub hl [1, 2, 0] rfl) ?_
    rintro i hil ih38 H locs ls hI hl
    have hI : mI k ad N g1 (mA ad N s.heap.size) s H locs := hI
    have hl : lv_has ls 5 [(0, .ref (ad 50)), (1, .long (dg2 lat (fun j => nI (gar j)) (dg1 (cntV u (sumL ln u) fig play n rd came mis lost uns bel) 1373 11) i)), (3, .int (nI i))] := hl
    refine lv_iload_n hx hb dX4_digest_38 rfl (lv_at hl 2 rfl) ?_
    refine lv_bipush (v := nI 16) hx hb dX4_digest_39 (by decide) ?_
    refine m_cgeN (tgt := 78) hx hb (by omega) (by omega) dX4_digest_41 (by decide) (fun c_41 => ?_) (fun c_41 => ?_)
    · have hi9 : i = 16 := by omega
      subst hi9
      refine lv_iconst (v := nI 0) hx hb dX4_digest_78 (by decide) ?_
      refine lv_istore_n (lv' := [(3, .int (nI 0)), (0, .ref (ad 50)), (1, .long (dg2 lat (fun j => nI (gar j)) (dg1 (cntV u (sumL ln u) fig play n rd came mis lost uns bel) 1373 11) 16))]) hx hb dX4_digest_79 rfl hl (by decide) rfl (fun ls hl => ?_)
      refine m_loop (σ := Nat) (fun i => i ≤ u) (fun i => u - i) (fun i => g1) (fun i => [(0, .ref (ad 50)), (1, .long (dg3 ln (fun l1 i1 => nI (pg (40 * l1 + i1))) (dg2 lat (fun j => nI (gar j)) (dg1 (cntV u (sumL ln u) fig play n rd came mis lost uns bel) 1373 11) 16) i)), (3, .int (nI i))]) (nL := 5) 0 (Nat.zero_le _) hI (lv_sub hl [1, 2, 0] rfl) ?_
      rintro i hil ih80 H locs ls hI hl
      have hI : mI k ad N g1 (mA ad N s.heap.size) s H locs := hI
      have hl : lv_has ls 5 [(0, .ref (ad 50)), (1, .long (dg3 ln (fun l1 i1 => nI (pg (40 * l1 + i1))) (dg2 lat (fun j => nI (gar j)) (dg1 (cntV u (sumL ln u) fig play n rd came mis lost uns bel) 1373 11) 16) i)), (3, .int (nI i))] := hl
      refine lv_iload_n hx hb dX4_digest_80 rfl (lv_at hl 2 rfl) ?_
      refine lv_aload_n hx hb dX4_digest_81 rfl (lv_at hl 0 rfl) ?_
      refine m_get (ci := 4) (C := RX4) (T := TX4) (N' := 16) hx hb hts (by decide +kernel) hown hE hI 50 (by omega) m_1 rfl 4 (by decide) (hts (.fieldLink RX4 7 "TapePrinterModel" "lines" "I") (by decide +kernel)) rfl dX4_digest_82 ?_
      refine m_cgeN (tgt := 148) hx hb (by omega) (by omega) dX4_digest_85 (by decide) (fun c_85 => ?_) (fun c_85 => ?_)
      · have hi9 : u = i := by omega
        subst hi9
        refine lv_iconst (v := nI 0) hx hb dX4_digest_148 (by decide) ?_
        refine lv_istore_n (lv' := [(3, .int (nI 0)), (0, .ref (ad 50)), (1, .long (dg3 ln (fun l1 i1 => nI (pg (40 * l1 + i1))) (dg2 lat (fun j => nI (gar j)) (dg1 (cntV u (sumL ln u) fig play n rd came mis lost uns bel) 1373 11) 16) u))]) hx hb dX4_digest_149 rfl hl (by decide) rfl (fun ls hl => ?_)
        refine m_loop (σ := Nat) (fun i => i ≤ n) (fun i => n - i) (fun i => g1) (fun i => [(0, .ref (ad 50)), (1, .long (dg1 (fun j => nI (T j)) (dg3 ln (fun l1 i1 => nI (pg (40 * l1 + i1))) (dg2 lat (fun j => nI (gar j)) (dg1 (cntV u (sumL ln u) fig play n rd came mis lost uns bel) 1373 11) 16) u) i)), (3, .int (nI i))]) (nL := 5) 0 (Nat.zero_le _) hI (lv_sub hl [1, 2, 0] rfl) ?_
        rintro i hil ih150 H locs ls hI hl
        have hI : mI k ad N g1 (mA ad N s.heap.size) s H locs := hI
        have hl : lv_has ls 5 [(0, .ref (ad 50)), (1, .long (dg1 (fun j => nI (T j)) (dg3 ln (fun l1 i1 => nI (pg (40 * l1 + i1))) (dg2 lat (fun j => nI (gar j)) (dg1 (cntV u (sumL ln u) fig play n rd came mis lost uns bel) 1373 11) 16) u) i)), (3, .int (nI i))] := hl
        refine lv_iload_n hx hb dX4_digest_150 rfl (lv_at hl 2 rfl) ?_
        refine lv_aload_n hx hb dX4_digest_151 rfl (lv_at hl 0 rfl) ?_
        refine m_get (ci := 4) (C := RX4) (T := TX4) (N' := 16) hx hb hts (by decide +kernel) hown hE hI 50 (by omega) m_1 rfl 10 (by decide) (hts (.fieldLink RX4 109 "TapePrinterModel" "codes" "I") (by decide +kernel)) rfl dX4_digest_152 ?_
        refine m_cgeN (tgt := 178) hx hb (by omega) (by omega) dX4_digest_155 (by decide) (fun c_155 => ?_) (fun c_155 => ?_)
        · have hi9 : n = i := by omega
          subst hi9
          refine lv_lload_n hx hb dX4_digest_178 rfl (lv_at hl 1 rfl) ?_
          exact m_lret hx hb hr hlocks hI (⟨⟨rfl, ⟨m_1, m_2, m_3, m_4, m_5, m_6⟩⟩, fun i hi => by rw [hg1, va_up_ne _ _ (by omega)]⟩) dX4_digest_179
        · refine lv_lload_n hx hb dX4_digest_158 rfl (lv_at hl 1 rfl) ?_
          refine lv_ldc2 (v := (31)) hx hb hown (hts (.constantLong RX4 143 (31)) (by decide +kernel)) dX4_digest_159 ?_
          refine lv_lmul hx hb dX4_digest_162 ?_
          refine lv_aload_n hx hb dX4_digest_163 rfl (lv_at hl 0 rfl) ?_
          refine m_get (ci := 4) (C := RX4) (T := TX4) (N' := 16) hx hb hts (by decide +kernel) hown hE hI 50 (by omega) m_1 rfl 9 (by decide) (hts (.fieldLink RX4 26 "TapePrinterModel" "tape" "[I") (by decide +kernel)) rfl dX4_digest_164 ?_
          refine lv_iload_n hx hb dX4_digest_167 rfl (lv_at hl 2 rfl) ?_
          refine m_iald hx hb hE hI 55 (by omega) (j := i) m_6 (by omega) (by omega) dX4_digest_168 ?_
          refine m_top (show (fun j => nI (T j)) i = nI (T i) from rfl) ?_
          have ht_7 := hT i
          refine lv_i2l (v := (nI (T i)).toInt64) hx hb dX4_digest_169 rfl ?_
          refine lv_ladd hx hb dX4_digest_170 ?_
          refine m_topl (show ((dg1 (fun j => nI (T j)) (dg3 ln (fun l1 i1 => nI (pg (40 * l1 + i1))) (dg2 lat (fun j => nI (gar j)) (dg1 (cntV u (sumL ln u) fig play n rd came mis lost uns bel) 1373 11) 16) u) i) * ((31))) + ((nI (T i)).toInt64) = mixI (dg1 (fun j => nI (T j)) (dg3 ln (fun l1 i1 => nI (pg (40 * l1 + i1))) (dg2 lat (fun j => nI (gar j)) (dg1 (cntV u (sumL ln u) fig play n rd came mis lost uns bel) 1373 11) 16) u) i) (nI (T i)) from rfl) ?_
          refine lv_lstore_n (lv' := [(1, .long (mixI (dg1 (fun j => nI (T j)) (dg3 ln (fun l1 i1 => nI (pg (40 * l1 + i1))) (dg2 lat (fun j => nI (gar j)) (dg1 (cntV u (sumL ln u) fig play n rd came mis lost uns bel) 1373 11) 16) u) i) (nI (T i)))), (0, .ref (ad 50)), (3, .int (nI i))]) hx hb dX4_digest_171 rfl hl (by decide) rfl (fun ls hl => ?_)
          refine lv_iinc (v := nI (i + 1)) (lv' := [(3, .int (nI (i + 1))), (1, .long (mixI (dg1 (fun j => nI (T j)) (dg3 ln (fun l1 i1 => nI (pg (40 * l1 + i1))) (dg2 lat (fun j => nI (gar j)) (dg1 (cntV u (sumL ln u) fig play n rd came mis lost uns bel) 1373 11) 16) u) i) (nI (T i)))), (0, .ref (ad 50))]) hx hb dX4_digest_172 hl (k := 2) rfl (nI_add i 1) (by decide) rfl (fun ls hl => ?_)
          refine lv_goto (tgt := 150) hx hb dX4_digest_175 (by decide) ?_
          exact ih150 (i + 1) (show i + 1 ≤ n by omega) (show n - (i + 1) < n - i by omega) _ _ _ hI (lv_sub hl [2, 1, 0] rfl)
      · have hlj := hln i (by omega)
        refine lv_lload_n hx hb dX4_digest_88 rfl (lv_at hl 1 rfl) ?_
        refine lv_ldc2 (v := (31)) hx hb hown (hts (.constantLong RX4 143 (31)) (by decide +kernel)) dX4_digest_89 ?_
        refine lv_lmul hx hb dX4_digest_92 ?_
        refine lv_aload_n hx hb dX4_digest_93 rfl (lv_at hl 0 rfl) ?_
        refine m_get (ci := 4) (C := RX4) (T := TX4) (N' := 16) hx hb hts (by decide +kernel) hown hE hI 50 (by omega) m_1 rfl 5 (by decide) (hts (.fieldLink RX4 13 "TapePrinterModel" "longs" "[I") (by decide +kernel)) rfl dX4_digest_94 ?_
        refine lv_iload_n hx hb dX4_digest_97 rfl (lv_at hl 2 rfl) ?_
        refine m_iald hx hb hE hI 51 (by omega) (j := i) m_2 (by omega) (by omega) dX4_digest_98 ?_
        refine m_top (show (fun j => nI (ln j)) i = nI (ln i) from rfl) ?_
        refine lv_i2l (v := (nI (ln i)).toInt64) hx hb dX4_digest_99 rfl ?_
        refine lv_ladd hx hb dX4_digest_100 ?_
        refine m_topl (show ((dg3 ln (fun l1 i1 => nI (pg (40 * l1 + i1))) (dg2 lat (fun j => nI (gar j)) (dg1 (cntV u (sumL ln u) fig play n rd came mis lost uns bel) 1373 11) 16) i) * ((31))) + ((nI (ln i)).toInt64) = mixI (dg3 ln (fun l1 i1 => nI (pg (40 * l1 + i1))) (dg2 lat (fun j => nI (gar j)) (dg1 (cntV u (sumL ln u) fig play n rd came mis lost uns bel) 1373 11) 16) i) (nI (ln i)) from rfl) ?_
        refine lv_lstore_n (lv' := [(1, .long (mixI (dg3 ln (fun l1 i1 => nI (pg (40 * l1 + i1))) (dg2 lat (fun j => nI (gar j)) (dg1 (cntV u (sumL ln u) fig play n rd came mis lost uns bel) 1373 11) 16) i) (nI (ln i)))), (0, .ref (ad 50)), (3, .int (nI i))]) hx hb dX4_digest_101 rfl hl (by decide) rfl (fun ls hl => ?_)
        refine lv_iconst (v := nI 0) hx hb dX4_digest_102 (by decide) ?_
        refine lv_istore (lv' := [(4, .int (nI 0)), (1, .long (mixI (dg3 ln (fun l1 i1 => nI (pg (40 * l1 + i1))) (dg2 lat (fun j => nI (gar j)) (dg1 (cntV u (sumL ln u) fig play n rd came mis lost uns bel) 1373 11) 16) i) (nI (ln i)))), (0, .ref (ad 50)), (3, .int (nI i))]) hx hb dX4_digest_103 hl (by decide) rfl (fun ls hl => ?_)
        refine m_loop (σ := Nat) (fun j => j ≤ ln i) (fun j => ln i - j) (fun j => g1) (fun j => [(0, .ref (ad 50)), (1, .long (dg1 (fun i1 => nI (pg (40 * i + i1))) (mixI (dg3 ln (fun l1 i1 => nI (pg (40 * l1 + i1))) (dg2 lat (fun j => nI (gar j)) (dg1 (cntV u (sumL ln u) fig play n rd came mis lost uns bel) 1373 11) 16) i) (nI (ln i))) j)), (3, .int (nI i)), (4, .int (nI j))]) (nL := 5) 0 (Nat.zero_le _) hI (lv_sub hl [2, 1, 3, 0] rfl) ?_
        rintro j hjl ih105 H locs ls hI hl
        have hI : mI k ad N g1 (mA ad N s.heap.size) s H locs := hI
        have hl : lv_has ls 5 [(0, .ref (ad 50)), (1, .long (dg1 (fun i1 => nI (pg (40 * i + i1))) (mixI (dg3 ln (fun l1 i1 => nI (pg (40 * l1 + i1))) (dg2 lat (fun j => nI (gar j)) (dg1 (cntV u (sumL ln u) fig play n rd came mis lost uns bel) 1373 11) 16) i) (nI (ln i))) j)), (3, .int (nI i)), (4, .int (nI j))] := hl
        refine lv_iload hx hb dX4_digest_105 (lv_at hl 3 rfl) ?_
        refine lv_aload_n hx hb dX4_digest_107 rfl (lv_at hl 0 rfl) ?_
        refine m_get (ci := 4) (C := RX4) (T := TX4) (N' := 16) hx hb hts (by decide +kernel) hown hE hI 50 (by omega) m_1 rfl 5 (by decide) (hts (.fieldLink RX4 13 "TapePrinterModel" "longs" "[I") (by decide +kernel)) rfl dX4_digest_108 ?_
        refine lv_iload_n hx hb dX4_digest_111 rfl (lv_at hl 2 rfl) ?_
        refine m_iald hx hb hE hI 51 (by omega) (j := i) m_2 (by omega) (by omega) dX4_digest_112 ?_
        refine m_top (show (fun j => nI (ln j)) i = nI (ln i) from rfl) ?_
        refine m_cgeN (tgt := 142) hx hb (by omega) (by omega) dX4_digest_113 (by decide) (fun c_113 => ?_) (fun c_113 => ?_)
        · have hj9 : j = ln i := by omega
          subst hj9
          refine lv_iinc (v := nI (i + 1)) (lv' := [(3, .int (nI (i + 1))), (0, .ref (ad 50)), (1, .long (dg1 (fun i1 => nI (pg (40 * i + i1))) (mixI (dg3 ln (fun l1 i1 => nI (pg (40 * l1 + i1))) (dg2 lat (fun j => nI (gar j)) (dg1 (cntV u (sumL ln u) fig play n rd came mis lost uns bel) 1373 11) 16) i) (nI (ln i))) (ln i))), (4, .int (nI (ln i)))]) hx hb dX4_digest_142 hl (k := 2) rfl (nI_add i 1) (by decide) rfl (fun ls hl => ?_)
          refine lv_goto (tgt := 80) hx hb dX4_digest_145 (by decide) ?_
          exact ih80 (i + 1) (show i + 1 ≤ u by omega) (show u - (i + 1) < u - i by omega) _ _ _ hI (lv_sub hl [1, 2, 0] rfl)
        · refine lv_lload_n hx hb dX4_digest_116 rfl (lv_at hl 1 rfl) ?_
          refine lv_ldc2 (v := (31)) hx hb hown (hts (.constantLong RX4 143 (31)) (by decide +kernel)) dX4_digest_117 ?_
          refine lv_lmul hx hb dX4_digest_120 ?_
          refine lv_aload_n hx hb dX4_digest_121 rfl (lv_at hl 0 rfl) ?_
          refine m_get (ci := 4) (C := RX4) (T := TX4) (N' := 16) hx hb hts (by decide +kernel) hown hE hI 50 (by omega) m_1 rfl 6 (by decide) (hts (.fieldLink RX4 17 "TapePrinterModel" "page" "[I") (by decide +kernel)) rfl dX4_digest_122 ?_
          refine lv_bipush (v := nI 40) hx hb dX4_digest_125 (by decide) ?_
          refine lv_iload_n hx hb dX4_digest_127 rfl (lv_at hl 2 rfl) ?_
          refine m_imulN hx hb dX4_digest_128 ?_
          refine lv_iload hx hb dX4_digest_129 (lv_at hl 3 rfl) ?_
          refine m_iaddN hx hb dX4_digest_131 ?_
          refine m_iald hx hb hE hI 52 (by omega) (j := (40 * i) + j) m_3 (by omega) (by omega) dX4_digest_132 ?_
          refine m_top (show (fun j => nI (pg j)) ((40 * i) + j) = nI (pg ((40 * i) + j)) from rfl) ?_
          refine lv_i2l (v := (nI (pg ((40 * i) + j))).toInt64) hx hb dX4_digest_133 rfl ?_
          refine lv_ladd hx hb dX4_digest_134 ?_
          refine m_topl (show ((dg1 (fun i1 => nI (pg (40 * i + i1))) (mixI (dg3 ln (fun l1 i1 => nI (pg (40 * l1 + i1))) (dg2 lat (fun j => nI (gar j)) (dg1 (cntV u (sumL ln u) fig play n rd came mis lost uns bel) 1373 11) 16) i) (nI (ln i))) j) * ((31))) + ((nI (pg ((40 * i) + j))).toInt64) = mixI (dg1 (fun i1 => nI (pg (40 * i + i1))) (mixI (dg3 ln (fun l1 i1 => nI (pg (40 * l1 + i1))) (dg2 lat (fun j => nI (gar j)) (dg1 (cntV u (sumL ln u) fig play n rd came mis lost uns bel) 1373 11) 16) i) (nI (ln i))) j) (nI (pg ((40 * i) + j))) from rfl) ?_
          refine lv_lstore_n (lv' := [(1, .long (mixI (dg1 (fun i1 => nI (pg (40 * i + i1))) (mixI (dg3 ln (fun l1 i1 => nI (pg (40 * l1 + i1))) (dg2 lat (fun j => nI (gar j)) (dg1 (cntV u (sumL ln u) fig play n rd came mis lost uns bel) 1373 11) 16) i) (nI (ln i))) j) (nI (pg ((40 * i) + j))))), (0, .ref (ad 50)), (3, .int (nI i)), (4, .int (nI j))]) hx hb dX4_digest_135 rfl hl (by decide) rfl (fun ls hl => ?_)
          refine lv_iinc (v := nI (j + 1)) (lv' := [(4, .int (nI (j + 1))), (1, .long (mixI (dg1 (fun i1 => nI (pg (40 * i + i1))) (mixI (dg3 ln (fun l1 i1 => nI (pg (40 * l1 + i1))) (dg2 lat (fun j => nI (gar j)) (dg1 (cntV u (sumL ln u) fig play n rd came mis lost uns bel) 1373 11) 16) i) (nI (ln i))) j) (nI (pg ((40 * i) + j))))), (0, .ref (ad 50)), (3, .int (nI i))]) hx hb dX4_digest_136 hl (k := 3) rfl (nI_add j 1) (by decide) rfl (fun ls hl => ?_)
          refine lv_goto (tgt := 105) hx hb dX4_digest_139 (by decide) ?_
          exact ih105 (j + 1) (show j + 1 ≤ ln i by omega) (show ln i - (j + 1) < ln i - j by omega) _ _ _ hI (lv_sub hl [2, 1, 3, 0] rfl)
    · refine lv_lload_n hx hb dX4_digest_44 rfl (lv_at hl 1 rfl) ?_
      refine lv_ldc2 (v := (31)) hx hb hown (hts (.constantLong RX4 143 (31)) (by decide +kernel)) dX4_digest_45 ?_
      refine lv_lmul hx hb dX4_digest_48 ?_
      refine lv_aload_n hx hb dX4_digest_49 rfl (lv_at hl 0 rfl) ?_
      refine m_get (ci := 4) (C := RX4) (T := TX4) (N' := 16) hx hb hts (by decide +kernel) hown hE hI 50 (by omega) m_1 rfl 7 (by decide) (hts (.fieldLink RX4 20 "TapePrinterModel" "lates" "[I") (by decide +kernel)) rfl dX4_digest_50 ?_
      refine lv_iload_n hx hb dX4_digest_53 rfl (lv_at hl 2 rfl) ?_
      refine m_iald hx hb hE hI 53 (by omega) (j := i) m_4 (by omega) (by omega) dX4_digest_54 ?_
      refine lv_i2l (v := (lat i).toInt64) hx hb dX4_digest_55 rfl ?_
      refine lv_ladd hx hb dX4_digest_56 ?_
      refine m_topl (show ((dg2 lat (fun j => nI (gar j)) (dg1 (cntV u (sumL ln u) fig play n rd came mis lost uns bel) 1373 11) i) * ((31))) + ((lat i).toInt64) = mixI (dg2 lat (fun j => nI (gar j)) (dg1 (cntV u (sumL ln u) fig play n rd came mis lost uns bel) 1373 11) i) (lat i) from rfl) ?_
      refine lv_lstore_n (lv' := [(1, .long (mixI (dg2 lat (fun j => nI (gar j)) (dg1 (cntV u (sumL ln u) fig play n rd came mis lost uns bel) 1373 11) i) (lat i))), (0, .ref (ad 50)), (3, .int (nI i))]) hx hb dX4_digest_57 rfl hl (by decide) rfl (fun ls hl => ?_)
      refine lv_lload_n hx hb dX4_digest_58 rfl (lv_at hl 0 rfl) ?_
      refine lv_ldc2 (v := (31)) hx hb hown (hts (.constantLong RX4 143 (31)) (by decide +kernel)) dX4_digest_59 ?_
      refine lv_lmul hx hb dX4_digest_62 ?_
      refine lv_aload_n hx hb dX4_digest_63 rfl (lv_at hl 1 rfl) ?_
      refine m_get (ci := 4) (C := RX4) (T := TX4) (N' := 16) hx hb hts (by decide +kernel) hown hE hI 50 (by omega) m_1 rfl 8 (by decide) (hts (.fieldLink RX4 23 "TapePrinterModel" "garbles" "[I") (by decide +kernel)) rfl dX4_digest_64 ?_
      refine lv_iload_n hx hb dX4_digest_67 rfl (lv_at hl 2 rfl) ?_
      refine m_iald hx hb hE hI 54 (by omega) (j := i) m_5 (by omega) (by omega) dX4_digest_68 ?_
      refine m_top (show (fun j => nI (gar j)) i = nI (gar i) from rfl) ?_
      refine lv_i2l (v := (nI (gar i)).toInt64) hx hb dX4_digest_69 rfl ?_
      refine lv_ladd hx hb dX4_digest_70 ?_
      refine m_topl (show ((mixI (dg2 lat (fun j => nI (gar j)) (dg1 (cntV u (sumL ln u) fig play n rd came mis lost uns bel) 1373 11) i) (lat i)) * ((31))) + ((nI (gar i)).toInt64) = mixI (mixI (dg2 lat (fun j => nI (gar j)) (dg1 (cntV u (sumL ln u) fig play n rd came mis lost uns bel) 1373 11) i) (lat i)) (nI (gar i)) from rfl) ?_
      refine lv_lstore_n (lv' := [(1, .long (mixI (mixI (dg2 lat (fun j => nI (gar j)) (dg1 (cntV u (sumL ln u) fig play n rd came mis lost uns bel) 1373 11) i) (lat i)) (nI (gar i)))), (0, .ref (ad 50)), (3, .int (nI i))]) hx hb dX4_digest_71 rfl hl (by decide) rfl (fun ls hl => ?_)
      refine lv_iinc (v := nI (i + 1)) (lv' := [(3, .int (nI (i + 1))), (1, .long (mixI (mixI (dg2 lat (fun j => nI (gar j)) (dg1 (cntV u (sumL ln u) fig play n rd came mis lost uns bel) 1373 11) i) (lat i)) (nI (gar i)))), (0, .ref (ad 50))]) hx hb dX4_digest_72 hl (k := 2) rfl (nI_add i 1) (by decide) rfl (fun ls hl => ?_)
      refine lv_goto (tgt := 38) hx hb dX4_digest_75 (by decide) ?_
      exact ih38 (i + 1) (show i + 1 ≤ 16 by omega) (show 16 - (i + 1) < 16 - i by omega) _ _ _ hI (lv_sub hl [2, 1, 0] rfl)
  · refine lv_lload_n hx hb dX4_digest_17 rfl (lv_at hl 1 rfl) ?_
    refine lv_ldc2 (v := (31)) hx hb hown (hts (.constantLong RX4 143 (31)) (by decide +kernel)) dX4_digest_18 ?_
    refine lv_lmul hx hb dX4_digest_21 ?_
    refine lv_aload_n hx hb dX4_digest_22 rfl (lv_at hl 0 rfl) ?_
    refine lv_iload_n hx hb dX4_digest_23 rfl (lv_at hl 2 rfl) ?_
    refine m_callVi (As := [.int (nI i)]) (rest := [.long ((dg1 (cntV u (sumL ln u) fig play n rd came mis lost uns bel) 1373 i) * ((31)))]) ⟨hx, hb, hml, hown, hts⟩ hE hI (c_X4_counted k l ad N g1 _ 0 uns play rd n lat gar T came mis lost bel fig u ln pg i (by omega) hW hwf (by omega) ⟨m_1, m_2, m_3, m_4, m_5, m_6⟩ (by omega)) (cwV 1 hts gX4_digest_X4_counted rfl rfl rfl (by decide +kernel) ⟨Nat.le_of_ble_eq_true rfl, Nat.le_of_ble_eq_true rfl⟩) (i := 50) (by omega) m_1 rfl rfl hl.1 rfl (Nat.le_of_ble_eq_true rfl) dX4_digest_24 ⟨Nat.le_of_ble_eq_true rfl, Nat.le_of_ble_eq_true rfl⟩ (m_deti (fun H locs hI => ?_))
    refine lv_i2l (v := (cntV u (sumL ln u) fig play n rd came mis lost uns bel i).toInt64) hx hb dX4_digest_27 rfl ?_
    refine lv_ladd hx hb dX4_digest_28 ?_
    refine m_topl (show ((dg1 (cntV u (sumL ln u) fig play n rd came mis lost uns bel) 1373 i) * ((31))) + ((cntV u (sumL ln u) fig play n rd came mis lost uns bel i).toInt64) = mixI (dg1 (cntV u (sumL ln u) fig play n rd came mis lost uns bel) 1373 i) (cntV u (sumL ln u) fig play n rd came mis lost uns bel i) from rfl) ?_
    refine lv_lstore_n (lv' := [(1, .long (mixI (dg1 (cntV u (sumL ln u) fig play n rd came mis lost uns bel) 1373 i) (cntV u (sumL ln u) fig play n rd came mis lost uns bel i))), (0, .ref (ad 50)), (3, .int (nI i))]) hx hb dX4_digest_29 rfl hl (by decide) rfl (fun ls hl => ?_)
    refine lv_iinc (v := nI (i + 1)) (lv' := [(3, .int (nI (i + 1))), (1, .long (mixI (dg1 (cntV u (sumL ln u) fig play n rd came mis lost uns bel) 1373 i) (cntV u (sumL ln u) fig play n rd came mis lost uns bel i))), (0, .ref (ad 50))]) hx hb dX4_digest_30 hl (k := 2) rfl (nI_add i 1) (by decide) rfl (fun ls hl => ?_)
    refine lv_goto (tgt := 11) hx hb dX4_digest_33 (by decide) ?_
    exact ih11 (i + 1) (show i + 1 ≤ 11 by omega) (show 11 - (i + 1) < 11 - i by omega) _ _ _ hI (lv_sub hl [2, 1, 0] rfl)
set_option maxHeartbeats 8000000 in
set_option maxRecDepth 100000 in
theorem c_X4_mean (k : mC) (l : Launch) (ad : Nat → Nat) (N : Nat) (g : Nat → va_E) (sz : Nat) (th : Nat) (uns : Bool) (play rd n : Nat) (lat : Nat → Int32) (gar T : Nat → Nat) (came : Nat) (mis lost bel : Int32) (fig : Bool) (u : Nat) (ln pg : Nat → Nat) (hN : 56 ≤ N) (hW : CW play rd n lat gar T) (hwf : mWf (u, ln, pg)) (hcame : came < 2000000000) (hM0 : MR k ad g th uns play rd n lat gar T (came, mis, lost, bel, fig, u, ln, pg)) : mCd k l yX4_mean wsX4_mean { frames := 1, cells := 0, slots := 0, locals := 23 } ad N g sz [.ref (ad 50)] (fun r1 g1 => (alike64 r1 (FP.ddiv (FP.i2d (nI (sumL ln u))) (FP.i2d (nI u))) = true ∧ MR k ad g1 0 uns play rd n lat gar T (came, mis, lost, bel, fig, u, ln, pg)) ∧ ∀ i, (i < 50 ∨ 56 ≤ i) → g1 i = g i) := by
  refine mOfD (cc := cX4_mean) (maxL := 1) (ret := (some .double)) (by decide) rfl (Nat.le_of_ble_eq_true rfl) ?_
  intro p e s m below meth c hx hb hr hts9 hown hlocks hml hd0 hE9 hI ls hl
  have hts := hts9 s.drawn
  have hE := hE9 s.drawn
  have hl : lv_has ls 1 [(0, .ref (ad 50))] := hl
  have h50 : g 50 = .inr (4, [.int (nI th), .int (bI fig), .int (bI uns), .int (nI play), .int (nI u), .ref (ad 51), .ref (ad 52), .ref (ad 53), .ref (ad 54), .ref (ad 55), .int (nI n), .int (nI rd), .int (nI came), .int mis, .int lost, .int bel]) := hM0.1
  have h51 : g 51 = .inl (k.2.1.1, 20, .inl (fun j => nI (ln j))) := hM0.2.1
  have h52 : g 52 = .inl (k.2.1.1, 800, .inl (fun j => nI (pg j))) := hM0.2.2.1
  have h53 : g 53 = .inl (k.2.1.1, 16, .inl lat) := hM0.2.2.2.1
  have h54 : g 54 = .inl (k.2.1.1, 16, .inl (fun j => nI (gar j))) := hM0.2.2.2.2.1
  have h55 : g 55 = .inl (k.2.1.1, 120, .inl (fun j => nI (T j))) := hM0.2.2.2.2.2
  obtain ⟨hplay, hrd, hn, hgar, hT, hlat⟩ := id hW
  have hu0 : 0 < u := hwf.1
  have hu : u ≤ 20 := hwf.2.1
  have hln : ∀ j, j < 20 → ln j ≤ 40 := hwf.2.2
  refine lv_aload_n hx hb dX4_mean_0 rfl (lv_at hl 0 rfl) ?_
  refine lv_iconst (v := nI 0) hx hb dX4_mean_1 (by decide) ?_
  refine m_put (ci := 4) (C := RX4) (T := TX4) (N' := 16) (ty := .int) hx hb hts (by decide +kernel) tyX4 tyX4_ok nmX4 hown hE hI 50 (by omega) h50 rfl 0 (by decide) (hts (.fieldLink RX4 29 "TapePrinterModel" "thrown" "I") (by decide +kernel)) rfl (by decide +kernel) rfl rfl (Nat.le_of_ble_eq_true rfl) dX4_mean_2 (fun H locs hI => ?_)
  obtain ⟨g1, hg1⟩ : ∃ zz, zz = va_up g 50 (.inr (4, [.int (nI 0), .int (bI fig), .int (bI uns), .int (nI play), .int (nI u), .ref (ad 51), .ref (ad 52), .ref (ad 53), .ref (ad 54), .ref (ad 55), .int (nI n), .int (nI rd), .int (nI came), .int mis, .int lost, .int bel])) := ⟨_, rfl⟩
  replace hI : mI k ad N g1 (mA ad N s.heap.size) s H locs := by rw [hg1]; exact hI
  have m_1 : g1 50 = .inr (4, [.int (nI 0), .int (bI fig), .int (bI uns), .int (nI play), .int (nI u), .ref (ad 51), .ref (ad 52), .ref (ad 53), .ref (ad 54), .ref (ad 55), .int (nI n), .int (nI rd), .int (nI came), .int mis, .int lost, .int bel]) := by rw [hg1, va_up_self]
  have m_2 : g1 51 = .inl (k.2.1.1, 20, .inl (fun j => nI (ln j))) := by rw [hg1, va_up_ne _ _ (by omega)]; exact h51
  have m_3 : g1 52 = .inl (k.2.1.1, 800, .inl (fun j => nI (pg j))) := by rw [hg1, va_up_ne _ _ (by omega)]; exact h52
  have m_4 : g1 53 = .inl (k.2.1.1, 16, .inl lat) := by rw [hg1, va_up_ne _ _ (by omega)]; exact h53
  have m_5 : g1 54 = .inl (k.2.1.1, 16, .inl (fun j => nI (gar j))) := by rw [hg1, va_up_ne _ _ (by omega)]; exact h54
  have m_6 : g1 55 = .inl (k.2.1.1, 120, .inl (fun j => nI (T j))) := by rw [hg1, va_up_ne _ _ (by omega)]; exact h55
  refine lv_aload_n hx hb dX4_mean_5 rfl (lv_at hl 0 rfl) ?_
  refine lv_iconst (v := nI 1) hx hb dX4_mean_6 (by decide) ?_
  refine m_callVi (As := [.int (nI 1)]) (rest := []) ⟨hx, hb, hml, hown, hts⟩ hE hI (c_X4_counted k l ad N g1 _ 0 uns play rd n lat gar T came mis lost bel fig u ln pg 1 (by omega) hW hwf (by omega) ⟨m_1, m_2, m_3, m_4, m_5, m_6⟩ (by omega)) (cwV 1 hts gX4_mean_X4_counted rfl rfl rfl (by decide +kernel) ⟨Nat.le_of_ble_eq_true rfl, Nat.le_of_ble_eq_true rfl⟩) (i := 50) (by omega) m_1 rfl rfl hl.1 rfl (Nat.le_of_ble_eq_true rfl) dX4_mean_7 ⟨Nat.le_of_ble_eq_true rfl, Nat.le_of_ble_eq_true rfl⟩ (m_deti (fun H locs hI => ?_))
  refine m_top (show cntV u (sumL ln u) fig play n rd came mis lost uns bel 1 = nI (sumL ln u) from rfl) ?_
  refine lv_i2d hx hb dX4_mean_10 ?_
  refine lv_aload_n hx hb dX4_mean_11 rfl (lv_at hl 0 rfl) ?_
  refine m_get (ci := 4) (C := RX4) (T := TX4) (N' := 16) hx hb hts (by decide +kernel) hown hE hI 50 (by omega) m_1 rfl 4 (by decide) (hts (.fieldLink RX4 7 "TapePrinterModel" "lines" "I") (by decide +kernel)) rfl dX4_mean_12 ?_
  refine lv_i2d hx hb dX4_mean_15 ?_
  refine lv_ddiv_any hd0 lw_bits hx hb dX4_mean_16 (fun r9 d1 hal hd1 => ?_)
  exact m_dret hx hb hr hlocks hd1 hI (post := fun r1 g1 => (alike64 r1 (FP.ddiv (FP.i2d (nI (sumL ln u))) (FP.i2d (nI u))) = true ∧ MR k ad g1 0 uns play rd n lat gar T (came, mis, lost, bel, fig, u, ln, pg)) ∧ ∀ i, (i < 50 ∨ 56 ≤ i) → g1 i = g i) ⟨⟨hal, ⟨m_1, m_2, m_3, m_4, m_5, m_6⟩⟩, fun i hi => by rw [hg1, va_up_ne _ _ (by omega)]⟩ dX4_mean_17
