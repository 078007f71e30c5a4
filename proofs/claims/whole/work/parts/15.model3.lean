theorem late_neg {lt : Int32} {play : Nat} (h1 : -9 ≤ lt) (h2 : lt ≤ 9) (hp : play ≤ 9) : (-nI play ≤ lt) ↔ ¬ nI play < -lt := by
  rw [Int32.le_iff_toInt_le] at h1 h2
  rw [Int32.le_iff_toInt_le, Int32.lt_iff_toInt_lt]
  have e1 : (-9 : Int32).toInt = -9 := by decide
  have e2 : (9 : Int32).toInt = 9 := by decide
  have e3 : (-nI play).toInt = -(play : Int) := sb_negT (by omega)
  have e4 : (-lt).toInt = -lt.toInt := Jvm.Kit.i32_neg (by omega)
  have e5 : (nI play).toInt = play := nI_toInt (by omega)
  omega
theorem msh_dep : ∀ c, c < 32 → ∀ uns, (decide (c = 27) || stl uns c) = true → dep c = false := by decide +kernel
/-- characters of the first m lines -/
def sumL (ln : Nat → Nat) : Nat → Nat
  | 0 => 0
  | m + 1 => sumL ln m + ln m
theorem sumL_le {ln : Nat → Nat} (h : ∀ j, j < 20 → ln j ≤ 40) (m : Nat) (hm : m ≤ 20) : sumL ln m ≤ 40 * m := by
  induction m with
  | zero => exact Nat.le_refl _
  | succ m ih => have := h m (by omega); have := ih (by omega); simp only [sumL]; omega
set_option maxHeartbeats 8000000 in
set_option maxRecDepth 100000 in
theorem c_X4_read (k : mC) (l : Launch) (ad : Nat → Nat) (N : Nat) (g : Nat → va_E) (sz : Nat) (th : Nat) (uns : Bool) (play rd n : Nat) (lat : Nat → Int32) (gar T : Nat → Nat) (came : Nat) (mis lost bel : Int32) (fig : Bool) (u : Nat) (ln pg : Nat → Nat) (co a : Nat) (hN : 56 ≤ N) (hW : CW play rd n lat gar T) (hwf : mWf (u, ln, pg)) (hcame : came < 2147483648) (hM0 : MR k ad g th uns play rd n lat gar T (came, mis, lost, bel, fig, u, ln, pg)) (hc : co < 32) (ha : a < 2147483648) : mCi k l yX4_read wsX4_read { frames := 0, cells := 0, slots := 0, locals := 0 } ad N g sz [.ref (ad 50), .int (nI co), .int (nI a)] (fun r1 g1 => r1 = nI (rdY play lat gar a co) ∧ g1 = g) := by
  refine mOf (Qc := fun z9 => va_Qi (fun r1 g1 => r1 = nI (rdY play lat gar a co) ∧ g1 = g) (mB k ad N) (mA ad N z9)) (cc := cX4_read) (maxL := 5) (ret := (some .int)) (by decide) rfl (Nat.le_of_ble_eq_true rfl) ?_
  intro p e s m below meth c hx hb hr hts hown hlocks hml hin hE hI ls hl
  have hl : lv_has ls 5 [(0, .ref (ad 50)), (1, .int (nI co)), (2, .int (nI a))] := hl
  have h50 : g 50 = .inr (4, [.int (nI th), .int (bI fig), .int (bI uns), .int (nI play), .int (nI u), .ref (ad 51), .ref (ad 52), .ref (ad 53), .ref (ad 54), .ref (ad 55), .int (nI n), .int (nI rd), .int (nI came), .int mis, .int lost, .int bel]) := hM0.1
  have h51 : g 51 = .inl (k.2.1.1, 20, .inl (fun j => nI (ln j))) := hM0.2.1
  have h52 : g 52 = .inl (k.2.1.1, 800, .inl (fun j => nI (pg j))) := hM0.2.2.1
  have h53 : g 53 = .inl (k.2.1.1, 16, .inl lat) := hM0.2.2.2.1
  have h54 : g 54 = .inl (k.2.1.1, 16, .inl (fun j => nI (gar j))) := hM0.2.2.2.2.1
  have h55 : g 55 = .inl (k.2.1.1, 120, .inl (fun j => nI (T j))) := hM0.2.2.2.2.2
  obtain ⟨hplay, hrd, hn, hgar, hT, hlat⟩ := id hW
  have hu0 : 0 < u := hwf.1
  have hu : u ≤ 20 := hwf.2.1
  have hln : ∀ j, j < 20 → ln j ≤ 40 := hwf.2.2
  have ha16 : a % 16 < 16 := Nat.mod_lt _ (by omega)
  refine lv_iload_n hx hb dX4_read_0 rfl (lv_at hl 1 rfl) ?_
  refine lv_aload_n hx hb dX4_read_1 rfl (lv_at hl 0 rfl) ?_
  refine m_get (ci := 4) (C := RX4) (T := TX4) (N' := 16) hx hb hts (by decide +kernel) hown hE hI 50 (by omega) h50 rfl 8 (by decide) (hts (.fieldLink RX4 23 "TapePrinterModel" "garbles" "[I") (by decide +kernel)) rfl dX4_read_2 ?_
  refine lv_iload_n hx hb dX4_read_5 rfl (lv_at hl 2 rfl) ?_
  refine lv_bipush (v := nI 16) hx hb dX4_read_6 (by decide) ?_
  refine m_iremN hx hb (by omega) (by omega) (by omega) dX4_read_8 ?_
  refine m_iald hx hb hE hI 54 (by omega) (j := a % 16) h54 (by omega) (by omega) dX4_read_9 ?_
  refine m_top (show (fun j => nI (gar j)) (a % 16) = nI (gar (a % 16)) from rfl) ?_
  refine lv_ixor hx hb dX4_read_10 ?_
  have hq := hgar (a % 16) ha16
  have hxr := xor32 co hc _ hq
  refine m_top hxr.1 ?_
  refine lv_istore_n (lv' := [(3, .int (nI (co ^^^ gar (a % 16)))), (0, .ref (ad 50)), (1, .int (nI co)), (2, .int (nI a))]) hx hb dX4_read_11 rfl hl (by decide) rfl (fun ls hl => ?_)
  refine lv_aload_n hx hb dX4_read_12 rfl (lv_at hl 1 rfl) ?_
  refine m_get (ci := 4) (C := RX4) (T := TX4) (N' := 16) hx hb hts (by decide +kernel) hown hE hI 50 (by omega) h50 rfl 7 (by decide) (hts (.fieldLink RX4 20 "TapePrinterModel" "lates" "[I") (by decide +kernel)) rfl dX4_read_13 ?_
  refine lv_iload_n hx hb dX4_read_16 rfl (lv_at hl 3 rfl) ?_
  refine lv_bipush (v := nI 16) hx hb dX4_read_17 (by decide) ?_
  refine m_iremN hx hb (by omega) (by omega) (by omega) dX4_read_19 ?_
  refine m_iald hx hb hE hI 53 (by omega) (j := a % 16) h53 (by omega) (by omega) dX4_read_20 ?_
  refine lv_istore (lv' := [(4, .int (lat (a % 16))), (3, .int (nI (co ^^^ gar (a % 16)))), (0, .ref (ad 50)), (1, .int (nI co)), (2, .int (nI a))]) hx hb dX4_read_21 hl (by decide) rfl (fun ls hl => ?_)
  refine lv_iload hx hb dX4_read_23 (lv_at hl 0 rfl) ?_
  refine lv_aload_n hx hb dX4_read_25 rfl (lv_at hl 2 rfl) ?_
  refine m_get (ci := 4) (C := RX4) (T := TX4) (N' := 16) hx hb hts (by decide +kernel) hown hE hI 50 (by omega) h50 rfl 3 (by decide) (hts (.fieldLink RX4 64 "TapePrinterModel" "play" "I") (by decide +kernel)) rfl dX4_read_26 ?_
  refine lv_icmp_le (tgt := 38) hx hb dX4_read_29 (by decide) (fun c_29 => ?_) (fun c_29 => ?_)
  · refine lv_iload hx hb dX4_read_38 (lv_at hl 0 rfl) ?_
    refine lv_aload_n hx hb dX4_read_40 rfl (lv_at hl 2 rfl) ?_
    refine m_get (ci := 4) (C := RX4) (T := TX4) (N' := 16) hx hb hts (by decide +kernel) hown hE hI 50 (by omega) h50 rfl 3 (by decide) (hts (.fieldLink RX4 64 "TapePrinterModel" "play" "I") (by decide +kernel)) rfl dX4_read_41 ?_
    refine lv_ineg hx hb dX4_read_44 ?_
    refine lv_icmp_ge (tgt := 59) hx hb dX4_read_45 (by decide) (fun c_45 => ?_) (fun c_45 => ?_)
    · refine lv_iload_n hx hb dX4_read_59 rfl (lv_at hl 1 rfl) ?_
      have k1 : ¬ nI play < lat (a % 16) := by rw [Int32.lt_iff_toInt_lt]; rw [Int32.le_iff_toInt_le] at c_29; omega
      have k0 := late_neg (hlat (a % 16)).1 (hlat (a % 16)).2 hplay
      exact m_iret hx hb hr hlocks hI (⟨by unfold rdY rdF; rw [if_neg k1, if_neg (k0.mp c_45)], rfl⟩) dX4_read_60
    · refine lv_iload_n hx hb dX4_read_48 rfl (lv_at hl 1 rfl) ?_
      refine lv_iconst (v := nI 1) hx hb dX4_read_49 (by decide) ?_
      refine lv_ishl hx hb dX4_read_50 ?_
      refine lv_iconst (v := nI 1) hx hb dX4_read_51 (by decide) ?_
      refine lv_ior hx hb dX4_read_52 ?_
      refine lv_bipush (v := nI 31) hx hb dX4_read_53 (by decide) ?_
      refine lv_iand hx hb dX4_read_55 ?_
      refine m_top (shl32 _ hxr.2) ?_
      refine lv_goto (tgt := 60) hx hb dX4_read_56 (by decide) ?_
      have k1 : ¬ nI play < lat (a % 16) := by rw [Int32.lt_iff_toInt_lt]; rw [Int32.le_iff_toInt_le] at c_29; omega
      have k0 := late_neg (hlat (a % 16)).1 (hlat (a % 16)).2 hplay
      have k2 : nI play < -lat (a % 16) := by
        by_cases hh : nI play < -lat (a % 16)
        · exact hh
        · exact absurd (k0.mpr hh) c_45
      exact m_iret hx hb hr hlocks hI (⟨by unfold rdY rdF; rw [if_neg k1, if_pos k2], rfl⟩) dX4_read_60
  · refine lv_iload_n hx hb dX4_read_32 rfl (lv_at hl 1 rfl) ?_
    refine lv_iconst (v := nI 1) hx hb dX4_read_33 (by decide) ?_
    refine lv_ishr hx hb dX4_read_34 ?_
    refine m_top (shr32 _ hxr.2) ?_
    refine lv_goto (tgt := 60) hx hb dX4_read_35 (by decide) ?_
    have k1 : nI play < lat (a % 16) := by rw [Int32.lt_iff_toInt_lt]; rw [Int32.le_iff_toInt_le] at c_29; omega
    exact m_iret hx hb hr hlocks hI (⟨by unfold rdY rdF; rw [if_pos k1], rfl⟩) dX4_read_60
set_option maxHeartbeats 8000000 in
set_option maxRecDepth 100000 in
theorem c_X4_come (k : mC) (l : Launch) (ad : Nat → Nat) (N : Nat) (g : Nat → va_E) (sz : Nat) (th : Nat) (uns : Bool) (play rd n : Nat) (lat : Nat → Int32) (gar T : Nat → Nat) (came : Nat) (mis lost bel : Int32) (fig : Bool) (u : Nat) (ln pg : Nat → Nat) (co : Nat) (hN : 56 ≤ N) (hW : CW play rd n lat gar T) (hwf : mWf (u, ln, pg)) (hcame : came < 2147483640) (hM0 : MR k ad g th uns play rd n lat gar T (came, mis, lost, bel, fig, u, ln, pg)) (hc : co < 32) : mCi k l yX4_come wsX4_come { frames := 3, cells := 0, slots := 0, locals := 81 } ad N g sz [.ref (ad 50), .int (nI co)] (fun r1 g1 => r1 = nI (rdY play lat gar came co) ∧ MR k ad g1 th uns play rd n lat gar T (yIn mNl mFull mAdd uns play lat gar co (came, mis, lost, bel, fig, u, ln, pg)) ∧ ∀ i, (i < 50 ∨ 56 ≤ i) → g1 i = g i) := by
  refine mOf (Qc := fun z9 => va_Qi (fun r1 g1 => r1 = nI (rdY play lat gar came co) ∧ MR k ad g1 th uns play rd n lat gar T (yIn mNl mFull mAdd uns play lat gar co (came, mis, lost, bel, fig, u, ln, pg)) ∧ ∀ i, (i < 50 ∨ 56 ≤ i) → g1 i = g i) (mB k ad N) (mA ad N z9)) (cc := cX4_come) (maxL := 3) (ret := (some .int)) (by decide) rfl (Nat.le_of_ble_eq_true rfl) ?_
  intro p e s m below meth c hx hb hr hts hown hlocks hml hin hE hI ls hl
  have hl : lv_has ls 3 [(0, .ref (ad 50)), (1, .int (nI co))] := hl
  have h50 : g 50 = .inr (4, [.int (nI th), .int (bI fig), .int (bI uns), .int (nI play), .int (nI u), .ref (ad 51), .ref (ad 52), .ref (ad 53), .ref (ad 54), .ref (ad 55), .int (nI n), .int (nI rd), .int (nI came), .int mis, .int lost, .int bel]) := hM0.1
  have h51 : g 51 = .inl (k.2.1.1, 20, .inl (fun j => nI (ln j))) := hM0.2.1
  have h52 : g 52 = .inl (k.2.1.1, 800, .inl (fun j => nI (pg j))) := hM0.2.2.1
  have h53 : g 53 = .inl (k.2.1.1, 16, .inl lat) := hM0.2.2.2.1
  have h54 : g 54 = .inl (k.2.1.1, 16, .inl (fun j => nI (gar j))) := hM0.2.2.2.2.1
  have h55 : g 55 = .inl (k.2.1.1, 120, .inl (fun j => nI (T j))) := hM0.2.2.2.2.2
  obtain ⟨hplay, hrd, hn, hgar, hT, hlat⟩ := id hW
  have hu0 : 0 < u := hwf.1
  have hu : u ≤ 20 := hwf.2.1
  have hln : ∀ j, j < 20 → ln j ≤ 40 := hwf.2.2
  refine lv_aload_n hx hb dX4_come_0 rfl (lv_at hl 0 rfl) ?_
  refine lv_iload_n hx hb dX4_come_1 rfl (lv_at hl 1 rfl) ?_
  refine lv_aload_n hx hb dX4_come_2 rfl (lv_at hl 0 rfl) ?_
  refine m_get (ci := 4) (C := RX4) (T := TX4) (N' := 16) hx hb hts (by decide +kernel) hown hE hI 50 (by omega) h50 rfl 12 (by decide) (hts (.fieldLink RX4 93 "TapePrinterModel" "came" "I") (by decide +kernel)) rfl dX4_come_3 ?_
  refine m_callVi (As := [.int (nI co), .int (nI came)]) (rest := []) ⟨hx, hb, hml, hown, hts⟩ hE hI (c_X4_read k l ad N g _ th uns play rd n lat gar T came mis lost bel fig u ln pg co came (by omega) hW hwf (by omega) ⟨h50, h51, h52, h53, h54, h55⟩ (by omega) (by omega)) (cwV 2 hts gX4_come_X4_read rfl rfl rfl (by decide +kernel) ⟨Nat.le_of_ble_eq_true rfl, Nat.le_of_ble_eq_true rfl⟩) (i := 50) (by omega) h50 rfl rfl hl.1 rfl (Nat.le_of_ble_eq_true rfl) dX4_come_6 ⟨Nat.le_of_ble_eq_true rfl, Nat.le_of_ble_eq_true rfl⟩ (m_deti (fun H locs hI => ?_))
  have hrl : rdY play lat gar came co < 32 := rdF_lt hc (hgar (came % 16) (Nat.mod_lt _ (by omega)))
  refine lv_istore_n (lv' := [(2, .int (nI (rdY play lat gar came co))), (0, .ref (ad 50)), (1, .int (nI co))]) hx hb dX4_come_9 rfl hl (by decide) rfl (fun ls hl => ?_)
  refine lv_aload_n hx hb dX4_come_10 rfl (lv_at hl 1 rfl) ?_
  refine lv_dup hx hb dX4_come_11 rfl ?_
  refine m_get (ci := 4) (C := RX4) (T := TX4) (N' := 16) hx hb hts (by decide +kernel) hown hE hI 50 (by omega) h50 rfl 12 (by decide) (hts (.fieldLink RX4 93 "TapePrinterModel" "came" "I") (by decide +kernel)) rfl dX4_come_12 ?_
  refine lv_iconst (v := nI 1) hx hb dX4_come_15 (by decide) ?_
  refine m_iaddN hx hb dX4_come_16 ?_
  refine m_put (ci := 4) (C := RX4) (T := TX4) (N' := 16) (ty := .int) hx hb hts (by decide +kernel) tyX4 tyX4_ok nmX4 hown hE hI 50 (by omega) h50 rfl 12 (by decide) (hts (.fieldLink RX4 93 "TapePrinterModel" "came" "I") (by decide +kernel)) rfl (by decide +kernel) rfl rfl (Nat.le_of_ble_eq_true rfl) dX4_come_17 (fun H locs hI => ?_)
  obtain ⟨g1, hg1⟩ : ∃ zz, zz = va_up g 50 (.inr (4, [.int (nI th), .int (bI fig), .int (bI uns), .int (nI play), .int (nI u), .ref (ad 51), .ref (ad 52), .ref (ad 53), .ref (ad 54), .ref (ad 55), .int (nI n), .int (nI rd), .int (nI (came + 1)), .int mis, .int lost, .int bel])) := ⟨_, rfl⟩
  replace hI : mI k ad N g1 (mA ad N s.heap.size) s H locs := by rw [hg1]; exact hI
  have m_1 : g1 50 = .inr (4, [.int (nI th), .int (bI fig), .int (bI uns), .int (nI play), .int (nI u), .ref (ad 51), .ref (ad 52), .ref (ad 53), .ref (ad 54), .ref (ad 55), .int (nI n), .int (nI rd), .int (nI (came + 1)), .int mis, .int lost, .int bel]) := by rw [hg1, va_up_self]
  have m_2 : g1 51 = .inl (k.2.1.1, 20, .inl (fun j => nI (ln j))) := by rw [hg1, va_up_ne _ _ (by omega)]; exact h51
  have m_3 : g1 52 = .inl (k.2.1.1, 800, .inl (fun j => nI (pg j))) := by rw [hg1, va_up_ne _ _ (by omega)]; exact h52
  have m_4 : g1 53 = .inl (k.2.1.1, 16, .inl lat) := by rw [hg1, va_up_ne _ _ (by omega)]; exact h53
  have m_5 : g1 54 = .inl (k.2.1.1, 16, .inl (fun j => nI (gar j))) := by rw [hg1, va_up_ne _ _ (by omega)]; exact h54
  have m_6 : g1 55 = .inl (k.2.1.1, 120, .inl (fun j => nI (T j))) := by rw [hg1, va_up_ne _ _ (by omega)]; exact h55
  refine lv_aload_n hx hb dX4_come_20 rfl (lv_at hl 1 rfl) ?_
  refine lv_dup hx hb dX4_come_21 rfl ?_
  refine m_get (ci := 4) (C := RX4) (T := TX4) (N' := 16) hx hb hts (by decide +kernel) hown hE hI 50 (by omega) m_1 rfl 13 (by decide) (hts (.fieldLink RX4 100 "TapePrinterModel" "wrongly" "I") (by decide +kernel)) rfl dX4_come_22 ?_
  refine lv_iload_n hx hb dX4_come_25 rfl (lv_at hl 0 rfl) ?_
  refine lv_iload_n hx hb dX4_come_26 rfl (lv_at hl 2 rfl) ?_
  refine m_cneN (tgt := 34) hx hb (by omega) (by omega) dX4_come_27 (by decide) (fun c_27 => ?_) (fun c_27 => ?_)
  · refine lv_iconst (v := nI 1) hx hb dX4_come_34 (by decide) ?_
    refine lv_iadd hx hb dX4_come_35 ?_
    refine m_top (show mis + (nI 1) = mis + 1 from rfl) ?_
    refine m_top (show mis + 1 = (if rdY play lat gar came co = co then mis else mis + 1) from by rw [if_neg c_27]) ?_
    refine m_put (ci := 4) (C := RX4) (T := TX4) (N' := 16) (ty := .int) hx hb hts (by decide +kernel) tyX4 tyX4_ok nmX4 hown hE hI 50 (by omega) m_1 rfl 13 (by decide) (hts (.fieldLink RX4 100 "TapePrinterModel" "wrongly" "I") (by decide +kernel)) rfl (by decide +kernel) rfl rfl (Nat.le_of_ble_eq_true rfl) dX4_come_36 (fun H locs hI => ?_)
    obtain ⟨g2, hg2⟩ : ∃ zz, zz = va_up g1 50 (.inr (4, [.int (nI th), .int (bI fig), .int (bI uns), .int (nI play), .int (nI u), .ref (ad 51), .ref (ad 52), .ref (ad 53), .ref (ad 54), .ref (ad 55), .int (nI n), .int (nI rd), .int (nI (came + 1)), .int ((if rdY play lat gar came co = co then mis else mis + 1)), .int lost, .int bel])) := ⟨_, rfl⟩
    replace hI : mI k ad N g2 (mA ad N s.heap.size) s H locs := by rw [hg2]; exact hI
    have m_7 : g2 50 = .inr (4, [.int (nI th), .int (bI fig), .int (bI uns), .int (nI play), .int (nI u), .ref (ad 51), .ref (ad 52), .ref (ad 53), .ref (ad 54), .ref (ad 55), .int (nI n), .int (nI rd), .int (nI (came + 1)), .int ((if rdY play lat gar came co = co then mis else mis + 1)), .int lost, .int bel]) := by rw [hg2, va_up_self]
    have m_8 : g2 51 = .inl (k.2.1.1, 20, .inl (fun j => nI (ln j))) := by rw [hg2, va_up_ne _ _ (by omega)]; exact m_2
    have m_9 : g2 52 = .inl (k.2.1.1, 800, .inl (fun j => nI (pg j))) := by rw [hg2, va_up_ne _ _ (by omega)]; exact m_3
    have m_10 : g2 53 = .inl (k.2.1.1, 16, .inl lat) := by rw [hg2, va_up_ne _ _ (by omega)]; exact m_4
    have m_11 : g2 54 = .inl (k.2.1.1, 16, .inl (fun j => nI (gar j))) := by rw [hg2, va_up_ne _ _ (by omega)]; exact m_5
    have m_12 : g2 55 = .inl (k.2.1.1, 120, .inl (fun j => nI (T j))) := by rw [hg2, va_up_ne _ _ (by omega)]; exact m_6
    refine lv_aload_n hx hb dX4_come_39 rfl (lv_at hl 1 rfl) ?_
    refine lv_iload_n hx hb dX4_come_40 rfl (lv_at hl 0 rfl) ?_
    refine m_callVv (As := [.int (nI (rdY play lat gar came co))]) (rest := []) ⟨hx, hb, hml, hown, hts⟩ hE hI (c_X4_print k l ad N g2 _ th uns play rd n lat gar T (came + 1) ((if rdY play lat gar came co = co then mis else mis + 1)) lost bel fig u ln pg (rdY play lat gar came co) (by omega) hW hwf (by omega) ⟨m_7, m_8, m_9, m_10, m_11, m_12⟩ hrl) (cwV 1 hts gX4_come_X4_print rfl rfl rfl (by decide +kernel) ⟨Nat.le_of_ble_eq_true rfl, Nat.le_of_ble_eq_true rfl⟩) (i := 50) (by omega) m_7 rfl rfl hl.1 rfl (Nat.le_of_ble_eq_true rfl) dX4_come_41 ⟨Nat.le_of_ble_eq_true rfl, Nat.le_of_ble_eq_true rfl⟩ (fun g9 H locs hp hI => ?_)
    obtain ⟨hM8, hk8⟩ := hp
    refine lv_iload_n hx hb dX4_come_44 rfl (lv_at hl 0 rfl) ?_
    exact m_iret hx hb hr hlocks hI (⟨rfl, hM8, fun i hi => by rw [hk8 i hi, hg2, va_up_ne _ _ (by omega), hg1, va_up_ne _ _ (by omega)]⟩) dX4_come_45
  · refine lv_iconst (v := nI 0) hx hb dX4_come_30 (by decide) ?_
    refine lv_goto (tgt := 35) hx hb dX4_come_31 (by decide) ?_
    refine lv_iadd hx hb dX4_come_35 ?_
    refine m_top (show mis + (nI 0) = mis + 0 from rfl) ?_
    refine m_top (show mis + 0 = (if rdY play lat gar came co = co then mis else mis + 1) from by rw [if_pos c_27]; exact Int32.add_zero mis) ?_
    refine m_put (ci := 4) (C := RX4) (T := TX4) (N' := 16) (ty := .int) hx hb hts (by decide +kernel) tyX4 tyX4_ok nmX4 hown hE hI 50 (by omega) m_1 rfl 13 (by decide) (hts (.fieldLink RX4 100 "TapePrinterModel" "wrongly" "I") (by decide +kernel)) rfl (by decide +kernel) rfl rfl (Nat.le_of_ble_eq_true rfl) dX4_come_36 (fun H locs hI => ?_)
    obtain ⟨g3, hg3⟩ : ∃ zz, zz = va_up g1 50 (.inr (4, [.int (nI th), .int (bI fig), .int (bI uns), .int (nI play), .int (nI u), .ref (ad 51), .ref (ad 52), .ref (ad 53), .ref (ad 54), .ref (ad 55), .int (nI n), .int (nI rd), .int (nI (came + 1)), .int ((if rdY play lat gar came co = co then mis else mis + 1)), .int lost, .int bel])) := ⟨_, rfl⟩
    replace hI : mI k ad N g3 (mA ad N s.heap.size) s H locs := by rw [hg3]; exact hI
    have m_13 : g3 50 = .inr (4, [.int (nI th), .int (bI fig), .int (bI uns), .int (nI play), .int (nI u), .ref (ad 51), .ref (ad 52), .ref (ad 53), .ref (ad 54), .ref (ad 55), .int (nI n), .int (nI rd), .int (nI (came + 1)), .int ((if rdY play lat gar came co = co then mis else mis + 1)), .int lost, .int bel]) := by rw [hg3, va_up_self]
    have m_14 : g3 51 = .inl (k.2.1.1, 20, .inl (fun j => nI (ln j))) := by rw [hg3, va_up_ne _ _ (by omega)]; exact m_2
    have m_15 : g3 52 = .inl (k.2.1.1, 800, .inl (fun j => nI (pg j))) := by rw [hg3, va_up_ne _ _ (by omega)]; exact m_3
    have m_16 : g3 53 = .inl (k.2.1.1, 16, .inl lat) := by rw [hg3, va_up_ne _ _ (by omega)]; exact m_4
    have m_17 : g3 54 = .inl (k.2.1.1, 16, .inl (fun j => nI (gar j))) := by rw [hg3, va_up_ne _ _ (by omega)]; exact m_5
    have m_18 : g3 55 = .inl (k.2.1.1, 120, .inl (fun j => nI (T j))) := by rw [hg3, va_up_ne _ _ (by omega)]; exact m_6
    refine lv_aload_n hx hb dX4_come_39 rfl (lv_at hl 1 rfl) ?_
    refine lv_iload_n hx hb dX4_come_40 rfl (lv_at hl 0 rfl) ?_
    refine m_callVv (As := [.int (nI (rdY play lat gar came co))]) (rest := []) ⟨hx, hb, hml, hown, hts⟩ hE hI (c_X4_print k l ad N g3 _ th uns play rd n lat gar T (came + 1) ((if rdY play lat gar came co = co then mis else mis + 1)) lost bel fig u ln pg (rdY play lat gar came co) (by omega) hW hwf (by omega) ⟨m_13, m_14, m_15, m_16, m_17, m_18⟩ hrl) (cwV 1 hts gX4_come_X4_print rfl rfl rfl (by decide +kernel) ⟨Nat.le_of_ble_eq_true rfl, Nat.le_of_ble_eq_true rfl⟩) (i := 50) (by omega) m_13 rfl rfl hl.1 rfl (Nat.le_of_ble_eq_true rfl) dX4_come_41 ⟨Nat.le_of_ble_eq_true rfl, Nat.le_of_ble_eq_true rfl⟩ (fun g9 H locs hp hI => ?_)
    obtain ⟨hM8, hk8⟩ := hp
    refine lv_iload_n hx hb dX4_come_44 rfl (lv_at hl 0 rfl) ?_
    exact m_iret hx hb hr hlocks hI (⟨rfl, hM8, fun i hi => by rw [hk8 i hi, hg3, va_up_ne _ _ (by omega), hg1, va_up_ne _ _ (by omega)]⟩) dX4_come_45
theorem CW.punch {play rd n : Nat} {lat : Nat → Int32} {gar T : Nat → Nat} (h : CW play rd n lat gar T) (hn : n < 120) {v : Nat} (hv : v < 32) : CW play rd (n + 1) lat gar (va_up T n v) :=
  ⟨h.1, Nat.le_succ_of_le h.2.1, hn, h.2.2.2.1, fun j => by unfold va_up; split <;> first | exact hv | exact h.2.2.2.2.1 _, h.2.2.2.2.2⟩
theorem updT (T : Nat → Nat) (n co : Nat) : (fun i => nI (va_up T n co i)) = upd (fun j => nI (T j)) n (nI co) := (upd_nI T n co).symm
set_option maxHeartbeats 8000000 in
set_option maxRecDepth 100000 in
theorem c_X4_put (k : mC) (l : Launch) (ad : Nat → Nat) (N : Nat) (g : Nat → va_E) (sz : Nat) (th : Nat) (uns : Bool) (play rd n : Nat) (lat : Nat → Int32) (gar T : Nat → Nat) (came : Nat) (mis lost bel : Int32) (fig : Bool) (u : Nat) (ln pg : Nat → Nat) (co : Nat) (hN : 56 ≤ N) (hW : CW play rd n lat gar T) (hwf : mWf (u, ln, pg)) (hcame : came < 2147483648) (hM0 : MR k ad g th uns play rd n lat gar T (came, mis, lost, bel, fig, u, ln, pg)) (hlt : n < 120) : mCv k l yX4_put wsX4_put { frames := 0, cells := 0, slots := 0, locals := 0 } ad N g sz [.ref (ad 50), .int (nI co)] (fun g1 => g1 = va_up (va_up g 55 (.inl (k.2.1.1, 120, .inl (fun j => nI (va_up T n co j))))) 50 (.inr (4, [.int (nI th), .int (bI fig), .int (bI uns), .int (nI play), .int (nI u), .ref (ad 51), .ref (ad 52), .ref (ad 53), .ref (ad 54), .ref (ad 55), .int (nI (n + 1)), .int (nI rd), .int (nI came), .int mis, .int lost, .int bel]))) := by
  refine mOf (Qc := fun z9 => va_Qv (fun g1 => g1 = va_up (va_up g 55 (.inl (k.2.1.1, 120, .inl (fun j => nI (va_up T n co j))))) 50 (.inr (4, [.int (nI th), .int (bI fig), .int (bI uns), .int (nI play), .int (nI u), .ref (ad 51), .ref (ad 52), .ref (ad 53), .ref (ad 54), .ref (ad 55), .int (nI (n + 1)), .int (nI rd), .int (nI came), .int mis, .int lost, .int bel]))) (mB k ad N) (mA ad N z9)) (cc := cX4_put) (maxL := 2) (ret := none) (by decide) rfl (Nat.le_of_ble_eq_true rfl) ?_
  intro p e s m below meth c hx hb hr hts hown hlocks hml hin hE hI ls hl
  have hl : lv_has ls 2 [(0, .ref (ad 50)), (1, .int (nI co))] := hl
  have h50 : g 50 = .inr (4, [.int (nI th), .int (bI fig), .int (bI uns), .int (nI play), .int (nI u), .ref (ad 51), .ref (ad 52), .ref (ad 53), .ref (ad 54), .ref (ad 55), .int (nI n), .int (nI rd), .int (nI came), .int mis, .int lost, .int bel]) := hM0.1
  have h51 : g 51 = .inl (k.2.1.1, 20, .inl (fun j => nI (ln j))) := hM0.2.1
  have h52 : g 52 = .inl (k.2.1.1, 800, .inl (fun j => nI (pg j))) := hM0.2.2.1
  have h53 : g 53 = .inl (k.2.1.1, 16, .inl lat) := hM0.2.2.2.1
  have h54 : g 54 = .inl (k.2.1.1, 16, .inl (fun j => nI (gar j))) := hM0.2.2.2.2.1
  have h55 : g 55 = .inl (k.2.1.1, 120, .inl (fun j => nI (T j))) := hM0.2.2.2.2.2
  obtain ⟨hplay, hrd, hn, hgar, hT, hlat⟩ := id hW
  have hu0 : 0 < u := hwf.1
  have hu : u ≤ 20 := hwf.2.1
  have hln : ∀ j, j < 20 → ln j ≤ 40 := hwf.2.2
  refine lv_aload_n hx hb dX4_put_0 rfl (lv_at hl 0 rfl) ?_
  refine m_get (ci := 4) (C := RX4) (T := TX4) (N' := 16) hx hb hts (by decide +kernel) hown hE hI 50 (by omega) h50 rfl 9 (by decide) (hts (.fieldLink RX4 26 "TapePrinterModel" "tape" "[I") (by decide +kernel)) rfl dX4_put_1 ?_
  refine lv_aload_n hx hb dX4_put_4 rfl (lv_at hl 0 rfl) ?_
  refine m_get (ci := 4) (C := RX4) (T := TX4) (N' := 16) hx hb hts (by decide +kernel) hown hE hI 50 (by omega) h50 rfl 10 (by decide) (hts (.fieldLink RX4 109 "TapePrinterModel" "codes" "I") (by decide +kernel)) rfl dX4_put_5 ?_
  refine lv_iload_n hx hb dX4_put_8 rfl (lv_at hl 1 rfl) ?_
  refine m_iast hx hb hE hI 55 (by omega) (j := n) h55 (by omega) (by omega) dX4_put_9 (fun H locs hI => ?_)
  obtain ⟨g1, hg1⟩ : ∃ zz, zz = va_up g 55 (.inl (k.2.1.1, 120, .inl (upd (fun j => nI (T j)) n (nI co)))) := ⟨_, rfl⟩
  replace hI : mI k ad N g1 (mA ad N s.heap.size) s H locs := by rw [hg1]; exact hI
  have m_1 : g1 50 = .inr (4, [.int (nI th), .int (bI fig), .int (bI uns), .int (nI play), .int (nI u), .ref (ad 51), .ref (ad 52), .ref (ad 53), .ref (ad 54), .ref (ad 55), .int (nI n), .int (nI rd), .int (nI came), .int mis, .int lost, .int bel]) := by rw [hg1, va_up_ne _ _ (by omega)]; exact h50
  have m_2 : g1 51 = .inl (k.2.1.1, 20, .inl (fun j => nI (ln j))) := by rw [hg1, va_up_ne _ _ (by omega)]; exact h51
  have m_3 : g1 52 = .inl (k.2.1.1, 800, .inl (fun j => nI (pg j))) := by rw [hg1, va_up_ne _ _ (by omega)]; exact h52
  have m_4 : g1 53 = .inl (k.2.1.1, 16, .inl lat) := by rw [hg1, va_up_ne _ _ (by omega)]; exact h53
  have m_5 : g1 54 = .inl (k.2.1.1, 16, .inl (fun j => nI (gar j))) := by rw [hg1, va_up_ne _ _ (by omega)]; exact h54
  have m_6 : g1 55 = .inl (k.2.1.1, 120, .inl (upd (fun j => nI (T j)) n (nI co))) := by rw [hg1, va_up_self]
  refine lv_aload_n hx hb dX4_put_10 rfl (lv_at hl 0 rfl) ?_
  refine lv_dup hx hb dX4_put_11 rfl ?_
  refine m_get (ci := 4) (C := RX4) (T := TX4) (N' := 16) hx hb hts (by decide +kernel) hown hE hI 50 (by omega) m_1 rfl 10 (by decide) (hts (.fieldLink RX4 109 "TapePrinterModel" "codes" "I") (by decide +kernel)) rfl dX4_put_12 ?_
  refine lv_iconst (v := nI 1) hx hb dX4_put_15 (by decide) ?_
  refine m_iaddN hx hb dX4_put_16 ?_
  refine m_put (ci := 4) (C := RX4) (T := TX4) (N' := 16) (ty := .int) hx hb hts (by decide +kernel) tyX4 tyX4_ok nmX4 hown hE hI 50 (by omega) m_1 rfl 10 (by decide) (hts (.fieldLink RX4 109 "TapePrinterModel" "codes" "I") (by decide +kernel)) rfl (by decide +kernel) rfl rfl (Nat.le_of_ble_eq_true rfl) dX4_put_17 (fun H locs hI => ?_)
  obtain ⟨g2, hg2⟩ : ∃ zz, zz = va_up g1 50 (.inr (4, [.int (nI th), .int (bI fig), .int (bI uns), .int (nI play), .int (nI u), .ref (ad 51), .ref (ad 52), .ref (ad 53), .ref (ad 54), .ref (ad 55), .int (nI (n + 1)), .int (nI rd), .int (nI came), .int mis, .int lost, .int bel])) := ⟨_, rfl⟩
  replace hI : mI k ad N g2 (mA ad N s.heap.size) s H locs := by rw [hg2]; exact hI
  have m_7 : g2 50 = .inr (4, [.int (nI th), .int (bI fig), .int (bI uns), .int (nI play), .int (nI u), .ref (ad 51), .ref (ad 52), .ref (ad 53), .ref (ad 54), .ref (ad 55), .int (nI (n + 1)), .int (nI rd), .int (nI came), .int mis, .int lost, .int bel]) := by rw [hg2, va_up_self]
  have m_8 : g2 51 = .inl (k.2.1.1, 20, .inl (fun j => nI (ln j))) := by rw [hg2, va_up_ne _ _ (by omega)]; exact m_2
  have m_9 : g2 52 = .inl (k.2.1.1, 800, .inl (fun j => nI (pg j))) := by rw [hg2, va_up_ne _ _ (by omega)]; exact m_3
  have m_10 : g2 53 = .inl (k.2.1.1, 16, .inl lat) := by rw [hg2, va_up_ne _ _ (by omega)]; exact m_4
  have m_11 : g2 54 = .inl (k.2.1.1, 16, .inl (fun j => nI (gar j))) := by rw [hg2, va_up_ne _ _ (by omega)]; exact m_5
  have m_12 : g2 55 = .inl (k.2.1.1, 120, .inl (upd (fun j => nI (T j)) n (nI co))) := by rw [hg2, va_up_ne _ _ (by omega)]; exact m_6
  exact m_vret hx hb hr hlocks hI (by rw [hg2, hg1, updT]) dX4_put_20
set_option maxHeartbeats 8000000 in
set_option maxRecDepth 100000 in
theorem c_X4_shiftAt (k : mC) (l : Launch) (ad : Nat → Nat) (N : Nat) (g : Nat → va_E) (sz : Nat) (th : Nat) (uns : Bool) (play rd n : Nat) (lat : Nat → Int32) (gar T : Nat → Nat) (came : Nat) (mis lost bel : Int32) (fig : Bool) (u : Nat) (ln pg : Nat → Nat) (e0 : Nat) (hN : 56 ≤ N) (hW : CW play rd n lat gar T) (hwf : mWf (u, ln, pg)) (hcame : came < 2147483648) (hM0 : MR k ad g th uns play rd n lat gar T (came, mis, lost, bel, fig, u, ln, pg)) (he0 : e0 ≤ n) : mCi k l yX4_shiftAt wsX4_shiftAt { frames := 1, cells := 0, slots := 0, locals := 22 } ad N g sz [.ref (ad 50), .int (nI e0)] (fun r1 g1 => r1 = bI (fa uns T e0) ∧ g1 = g) := by
  refine mOf (Qc := fun z9 => va_Qi (fun r1 g1 => r1 = bI (fa uns T e0) ∧ g1 = g) (mB k ad N) (mA ad N z9)) (cc := cX4_shiftAt) (maxL := 4) (ret := (some .boolean)) (by decide) rfl (Nat.le_of_ble_eq_true rfl) ?_
  intro p e s m below meth c hx hb hr hts hown hlocks hml hin hE hI ls hl
  have hl : lv_has ls 4 [(0, .ref (ad 50)), (1, .int (nI e0))] := hl
  have h50 : g 50 = .inr (4, [.int (nI th), .int (bI fig), .int (bI uns), .int (nI play), .int (nI u), .ref (ad 51), .ref (ad 52), .ref (ad 53), .ref (ad 54), .ref (ad 55), .int (nI n), .int (nI rd), .int (nI came), .int mis, .int lost, .int bel]) := hM0.1
  have h51 : g 51 = .inl (k.2.1.1, 20, .inl (fun j => nI (ln j))) := hM0.2.1
  have h52 : g 52 = .inl (k.2.1.1, 800, .inl (fun j => nI (pg j))) := hM0.2.2.1
  have h53 : g 53 = .inl (k.2.1.1, 16, .inl lat) := hM0.2.2.2.1
  have h54 : g 54 = .inl (k.2.1.1, 16, .inl (fun j => nI (gar j))) := hM0.2.2.2.2.1
  have h55 : g 55 = .inl (k.2.1.1, 120, .inl (fun j => nI (T j))) := hM0.2.2.2.2.2
  obtain ⟨hplay, hrd, hn, hgar, hT, hlat⟩ := id hW
  have hu0 : 0 < u := hwf.1
  have hu : u ≤ 20 := hwf.2.1
  have hln : ∀ j, j < 20 → ln j ≤ 40 := hwf.2.2
  refine lv_iconst (v := nI 0) hx hb dX4_shiftAt_0 (by decide) ?_
  refine m_top (show nI 0 = bI (fa uns T 0) from rfl) ?_
  refine lv_istore_n (lv' := [(2, .int (bI (fa uns T 0))), (0, .ref (ad 50)), (1, .int (nI e0))]) hx hb dX4_shiftAt_1 rfl hl (by decide) rfl (fun ls hl => ?_)
  refine lv_iconst (v := nI 0) hx hb dX4_shiftAt_2 (by decide) ?_
  refine lv_istore_n (lv' := [(3, .int (nI 0)), (2, .int (bI (fa uns T 0))), (0, .ref (ad 50)), (1, .int (nI e0))]) hx hb dX4_shiftAt_3 rfl hl (by decide) rfl (fun ls hl => ?_)
  refine m_loop (σ := Nat) (fun i => i ≤ e0) (fun i => e0 - i) (fun i => g) (fun i => [(0, .ref (ad 50)), (1, .int (nI e0)), (2, .int (bI (fa uns T i))), (3, .int (nI i))]) (nL := 4) 0 (Nat.zero_le _) hI (lv_sub hl [2, 3, 1, 0] rfl) ?_
  rintro i hie ih4 H locs ls hI hl
  have hI : mI k ad N g (mA ad N s.heap.size) s H locs := hI
  have hl : lv_has ls 4 [(0, .ref (ad 50)), (1, .int (nI e0)), (2, .int (bI (fa uns T i))), (3, .int (nI i))] := hl
  refine lv_iload_n hx hb dX4_shiftAt_4 rfl (lv_at hl 3 rfl) ?_
  refine lv_iload_n hx hb dX4_shiftAt_5 rfl (lv_at hl 1 rfl) ?_
  refine m_cgeN (tgt := 27) hx hb (by omega) (by omega) dX4_shiftAt_6 (by decide) (fun c_6 => ?_) (fun c_6 => ?_)
  · refine lv_iload_n hx hb dX4_shiftAt_27 rfl (lv_at hl 2 rfl) ?_
    exact m_zret (v := fa uns T i) hx hb hr hlocks hI (⟨by rw [show i = e0 by omega], rfl⟩) dX4_shiftAt_28
  · refine lv_aload_n hx hb dX4_shiftAt_9 rfl (lv_at hl 0 rfl) ?_
    refine lv_iload_n hx hb dX4_shiftAt_10 rfl (lv_at hl 2 rfl) ?_
    refine lv_aload_n hx hb dX4_shiftAt_11 rfl (lv_at hl 0 rfl) ?_
    refine m_get (ci := 4) (C := RX4) (T := TX4) (N' := 16) hx hb hts (by decide +kernel) hown hE hI 50 (by omega) h50 rfl 9 (by decide) (hts (.fieldLink RX4 26 "TapePrinterModel" "tape" "[I") (by decide +kernel)) rfl dX4_shiftAt_12 ?_
    refine lv_iload_n hx hb dX4_shiftAt_15 rfl (lv_at hl 3 rfl) ?_
    refine m_iald hx hb hE hI 55 (by omega) (j := i) h55 (by omega) (by omega) dX4_shiftAt_16 ?_
    refine m_top (show (fun j => nI (T j)) i = nI (T i) from rfl) ?_
    have ht_1 := hT i
    refine m_callVi (As := [.int (bI (fa uns T i)), .int (nI (T i))]) (rest := []) ⟨hx, hb, hml, hown, hts⟩ hE hI (c_X4_shift k l ad N g _ th uns play rd n lat gar T came mis lost bel fig u ln pg (fa uns T i) (T i) (by omega) hW hwf (by omega) ⟨h50, h51, h52, h53, h54, h55⟩ (hT _)) (cwV 2 hts gX4_shiftAt_X4_shift rfl rfl rfl (by decide +kernel) ⟨Nat.le_of_ble_eq_true rfl, Nat.le_of_ble_eq_true rfl⟩) (i := 50) (by omega) h50 rfl rfl hl.1 rfl (Nat.le_of_ble_eq_true rfl) dX4_shiftAt_17 ⟨Nat.le_of_ble_eq_true rfl, Nat.le_of_ble_eq_true rfl⟩ (m_deti (fun H locs hI => ?_))
    refine lv_istore_n (lv' := [(2, .int (bI (fb uns (T i) (fa uns T i)))), (0, .ref (ad 50)), (1, .int (nI e0)), (3, .int (nI i))]) hx hb dX4_shiftAt_20 rfl hl (by decide) rfl (fun ls hl => ?_)
    refine lv_iinc (v := nI (i + 1)) (lv' := [(3, .int (nI (i + 1))), (2, .int (bI (fb uns (T i) (fa uns T i)))), (0, .ref (ad 50)), (1, .int (nI e0))]) hx hb dX4_shiftAt_21 hl (k := 3) rfl (nI_add i 1) (by decide) rfl (fun ls hl => ?_)
    refine lv_goto (tgt := 4) hx hb dX4_shiftAt_24 (by decide) ?_
    exact ih4 (i + 1) (show i + 1 ≤ e0 by omega) (show e0 - (i + 1) < e0 - i by omega) _ _ _ hI (lv_sub hl [2, 3, 1, 0] rfl)
set_option maxHeartbeats 8000000 in
set_option maxRecDepth 100000 in
theorem c_X4_isPlace (k : mC) (l : Launch) (ad : Nat → Nat) (N : Nat) (g : Nat → va_E) (sz : Nat) (th : Nat) (uns : Bool) (play rd n : Nat) (lat : Nat → Int32) (gar T : Nat → Nat) (came : Nat) (mis lost bel : Int32) (fig : Bool) (u : Nat) (ln pg : Nat → Nat) (x : Int32) (hN : 56 ≤ N) (hW : CW play rd n lat gar T) (hwf : mWf (u, ln, pg)) (hcame : came < 2147483648) (hM0 : MR k ad g th uns play rd n lat gar T (came, mis, lost, bel, fig, u, ln, pg))  : mCi k l yX4_isPlace wsX4_isPlace { frames := 1, cells := 0, slots := 0, locals := 22 } ad N g sz [.ref (ad 50), .int x] (fun r1 g1 => r1 = bI (inN x n) ∧ g1 = g) := by
  refine mOf (Qc := fun z9 => va_Qi (fun r1 g1 => r1 = bI (inN x n) ∧ g1 = g) (mB k ad N) (mA ad N z9)) (cc := cX4_isPlace) (maxL := 2) (ret := (some .boolean)) (by decide) rfl (Nat.le_of_ble_eq_true rfl) ?_
  intro p e s m below meth c hx hb hr hts hown hlocks hml hin hE hI ls hl
  have hl : lv_has ls 2 [(0, .ref (ad 50)), (1, .int x)] := hl
  have h50 : g 50 = .inr (4, [.int (nI th), .int (bI fig), .int (bI uns), .int (nI play), .int (nI u), .ref (ad 51), .ref (ad 52), .ref (ad 53), .ref (ad 54), .ref (ad 55), .int (nI n), .int (nI rd), .int (nI came), .int mis, .int lost, .int bel]) := hM0.1
  have h51 : g 51 = .inl (k.2.1.1, 20, .inl (fun j => nI (ln j))) := hM0.2.1
  have h52 : g 52 = .inl (k.2.1.1, 800, .inl (fun j => nI (pg j))) := hM0.2.2.1
  have h53 : g 53 = .inl (k.2.1.1, 16, .inl lat) := hM0.2.2.2.1
  have h54 : g 54 = .inl (k.2.1.1, 16, .inl (fun j => nI (gar j))) := hM0.2.2.2.2.1
  have h55 : g 55 = .inl (k.2.1.1, 120, .inl (fun j => nI (T j))) := hM0.2.2.2.2.2
  obtain ⟨hplay, hrd, hn, hgar, hT, hlat⟩ := id hW
  have hu0 : 0 < u := hwf.1
  have hu : u ≤ 20 := hwf.2.1
  have hln : ∀ j, j < 20 → ln j ≤ 40 := hwf.2.2
  refine lv_iload_n hx hb dX4_isPlace_0 rfl (lv_at hl 1 rfl) ?_
  refine lv_iconst (v := nI 0) hx hb dX4_isPlace_1 (by decide) ?_
  refine lv_aload_n hx hb dX4_isPlace_2 rfl (lv_at hl 0 rfl) ?_
  refine m_get (ci := 4) (C := RX4) (T := TX4) (N' := 16) hx hb hts (by decide +kernel) hown hE hI 50 (by omega) h50 rfl 10 (by decide) (hts (.fieldLink RX4 109 "TapePrinterModel" "codes" "I") (by decide +kernel)) rfl dX4_isPlace_3 ?_
  refine lv_iconst (v := nI 1) hx hb dX4_isPlace_6 (by decide) ?_
  refine lv_isub hx hb dX4_isPlace_7 ?_
  refine m_callSi (As := [.int x, .int (nI 0), .int (nI n - nI 1)]) (rest := []) ⟨hx, hb, hml, hown, hts⟩ hE hI (c_X4_isIn k l ad N g _ x (nI 0) (nI n - nI 1)) (va_cwS 3 hts gX4_isPlace_X4_isIn rfl rfl rfl (by decide +kernel) ⟨Nat.le_of_ble_eq_true rfl, Nat.le_of_ble_eq_true rfl⟩) rfl hl.1 rfl (Nat.le_of_ble_eq_true rfl) dX4_isPlace_8 ⟨Nat.le_of_ble_eq_true rfl, Nat.le_of_ble_eq_true rfl⟩ (m_deti (fun H locs hI => ?_))
  refine m_top (show bI (decide (nI 0 ≤ x) && decide (x ≤ nI n - nI 1)) = bI (inN x n) from by rw [isIn_P (by omega)]) ?_
  exact m_zret (v := inN x n) hx hb hr hlocks hI (⟨rfl, rfl⟩) dX4_isPlace_11
set_option maxHeartbeats 8000000 in
set_option maxRecDepth 100000 in
theorem c_X4_isLine (k : mC) (l : Launch) (ad : Nat → Nat) (N : Nat) (g : Nat → va_E) (sz : Nat) (th : Nat) (uns : Bool) (play rd n : Nat) (lat : Nat → Int32) (gar T : Nat → Nat) (came : Nat) (mis lost bel : Int32) (fig : Bool) (u : Nat) (ln pg : Nat → Nat) (x : Int32) (hN : 56 ≤ N) (hW : CW play rd n lat gar T) (hwf : mWf (u, ln, pg)) (hcame : came < 2147483648) (hM0 : MR k ad g th uns play rd n lat gar T (came, mis, lost, bel, fig, u, ln, pg))  : mCi k l yX4_isLine wsX4_isLine { frames := 1, cells := 0, slots := 0, locals := 22 } ad N g sz [.ref (ad 50), .int x] (fun r1 g1 => r1 = bI (inN x u) ∧ g1 = g) := by
  refine mOf (Qc := fun z9 => va_Qi (fun r1 g1 => r1 = bI (inN x u) ∧ g1 = g) (mB k ad N) (mA ad N z9)) (cc := cX4_isLine) (maxL := 2) (ret := (some .boolean)) (by decide) rfl (Nat.le_of_ble_eq_true rfl) ?_
  intro p e s m below meth c hx hb hr hts hown hlocks hml hin hE hI ls hl
  have hl : lv_has ls 2 [(0, .ref (ad 50)), (1, .int x)] := hl
  have h50 : g 50 = .inr (4, [.int (nI th), .int (bI fig), .int (bI uns), .int (nI play), .int (nI u), .ref (ad 51), .ref (ad 52), .ref (ad 53), .ref (ad 54), .ref (ad 55), .int (nI n), .int (nI rd), .int (nI came), .int mis, .int lost, .int bel]) := hM0.1
  have h51 : g 51 = .inl (k.2.1.1, 20, .inl (fun j => nI (ln j))) := hM0.2.1
  have h52 : g 52 = .inl (k.2.1.1, 800, .inl (fun j => nI (pg j))) := hM0.2.2.1
  have h53 : g 53 = .inl (k.2.1.1, 16, .inl lat) := hM0.2.2.2.1
  have h54 : g 54 = .inl (k.2.1.1, 16, .inl (fun j => nI (gar j))) := hM0.2.2.2.2.1
  have h55 : g 55 = .inl (k.2.1.1, 120, .inl (fun j => nI (T j))) := hM0.2.2.2.2.2
  obtain ⟨hplay, hrd, hn, hgar, hT, hlat⟩ := id hW
  have hu0 : 0 < u := hwf.1
  have hu : u ≤ 20 := hwf.2.1
  have hln : ∀ j, j < 20 → ln j ≤ 40 := hwf.2.2
  refine lv_iload_n hx hb dX4_isLine_0 rfl (lv_at hl 1 rfl) ?_
  refine lv_iconst (v := nI 0) hx hb dX4_isLine_1 (by decide) ?_
  refine lv_aload_n hx hb dX4_isLine_2 rfl (lv_at hl 0 rfl) ?_
  refine m_get (ci := 4) (C := RX4) (T := TX4) (N' := 16) hx hb hts (by decide +kernel) hown hE hI 50 (by omega) h50 rfl 4 (by decide) (hts (.fieldLink RX4 7 "TapePrinterModel" "lines" "I") (by decide +kernel)) rfl dX4_isLine_3 ?_
  refine lv_iconst (v := nI 1) hx hb dX4_isLine_6 (by decide) ?_
  refine lv_isub hx hb dX4_isLine_7 ?_
  refine m_callSi (As := [.int x, .int (nI 0), .int (nI u - nI 1)]) (rest := []) ⟨hx, hb, hml, hown, hts⟩ hE hI (c_X4_isIn k l ad N g _ x (nI 0) (nI u - nI 1)) (va_cwS 3 hts gX4_isLine_X4_isIn rfl rfl rfl (by decide +kernel) ⟨Nat.le_of_ble_eq_true rfl, Nat.le_of_ble_eq_true rfl⟩) rfl hl.1 rfl (Nat.le_of_ble_eq_true rfl) dX4_isLine_8 ⟨Nat.le_of_ble_eq_true rfl, Nat.le_of_ble_eq_true rfl⟩ (m_deti (fun H locs hI => ?_))
  refine m_top (show bI (decide (nI 0 ≤ x) && decide (x ≤ nI u - nI 1)) = bI (inN x u) from by rw [isIn_P (by omega)]) ?_
  exact m_zret (v := inN x u) hx hb hr hlocks hI (⟨rfl, rfl⟩) dX4_isLine_11
set_option maxHeartbeats 8000000 in
set_option maxRecDepth 100000 in
theorem c_X4_counted (k : mC) (l : Launch) (ad : Nat → Nat) (N : Nat) (g : Nat → va_E) (sz : Nat) (th : Nat) (uns : Bool) (play rd n : Nat) (lat : Nat → Int32) (gar T : Nat → Nat) (came : Nat) (mis lost bel : Int32) (fig : Bool) (u : Nat) (ln pg : Nat → Nat) (q : Nat) (hN : 56 ≤ N) (hW : CW play rd n lat gar T) (hwf : mWf (u, ln, pg)) (hcame : came < 2147483648) (hM0 : MR k ad g th uns play rd n lat gar T (came, mis, lost, bel, fig, u, ln, pg)) (hq : q < 11) : mCi k l yX4_counted wsX4_counted { frames := 0, cells := 0, slots := 0, locals := 0 } ad N g sz [.ref (ad 50), .int (nI q)] (fun r1 g1 => r1 = cntV u (sumL ln u) fig play n rd came mis lost uns bel q ∧ g1 = g) := by
  refine mOf (Qc := fun z9 => va_Qi (fun r1 g1 => r1 = cntV u (sumL ln u) fig play n rd came mis lost uns bel q ∧ g1 = g) (mB k ad N) (mA ad N z9)) (cc := cX4_counted) (maxL := 4) (ret := (some .int)) (by decide) rfl (Nat.le_of_ble_eq_true rfl) ?_
  intro p e s m below meth c hx hb hr hts hown hlocks hml hin hE hI ls hl
  have hl : lv_has ls 4 [(0, .ref (ad 50)), (1, .int (nI q))] := hl
  have h50 : g 50 = .inr (4, [.int (nI th), .int (bI fig), .int (bI uns), .int (nI play), .int (nI u), .ref (ad 51), .ref (ad 52), .ref (ad 53), .ref (ad 54), .ref (ad 55), .int (nI n), .int (nI rd), .int (nI came), .int mis, .int lost, .int bel]) := hM0.1
  have h51 : g 51 = .inl (k.2.1.1, 20, .inl (fun j => nI (ln j))) := hM0.2.1
  have h52 : g 52 = .inl (k.2.1.1, 800, .inl (fun j => nI (pg j))) := hM0.2.2.1
  have h53 : g 53 = .inl (k.2.1.1, 16, .inl lat) := hM0.2.2.2.1
  have h54 : g 54 = .inl (k.2.1.1, 16, .inl (fun j => nI (gar j))) := hM0.2.2.2.2.1
  have h55 : g 55 = .inl (k.2.1.1, 120, .inl (fun j => nI (T j))) := hM0.2.2.2.2.2
  obtain ⟨hplay, hrd, hn, hgar, hT, hlat⟩ := id hW
  have hu0 : 0 < u := hwf.1
  have hu : u ≤ 20 := hwf.2.1
  have hln : ∀ j, j < 20 → ln j ≤ 40 := hwf.2.2
  refine lv_iload_n hx hb dX4_counted_0 rfl (lv_at hl 1 rfl) ?_
  have hsw : q = 0 ∨ q = 1 ∨ q = 2 ∨ q = 3 ∨ q = 4 ∨ q = 5 ∨ q = 6 ∨ q = 7 ∨ q = 8 ∨ q = 9 ∨ q = 10 := by omega
  rcases hsw with rfl | rfl | rfl | rfl | rfl | rfl | rfl | rfl | rfl | rfl | rfl
  · refine lv_tableIn (tgt := 56) hx hb dX4_counted_1 (by decide) (by decide) (off := 55) (by decide) (by decide) ?_
    refine lv_aload_n hx hb dX4_counted_56 rfl (lv_at hl 0 rfl) ?_
    refine m_get (ci := 4) (C := RX4) (T := TX4) (N' := 16) hx hb hts (by decide +kernel) hown hE hI 50 (by omega) h50 rfl 4 (by decide) (hts (.fieldLink RX4 7 "TapePrinterModel" "lines" "I") (by decide +kernel)) rfl dX4_counted_57 ?_
    exact m_iret hx hb hr hlocks hI (⟨rfl, rfl⟩) dX4_counted_60
  · refine lv_tableIn (tgt := 61) hx hb dX4_counted_1 (by decide) (by decide) (off := 60) (by decide) (by decide) ?_
    refine lv_iconst (v := nI 0) hx hb dX4_counted_61 (by decide) ?_
    refine lv_istore_n (lv' := [(2, .int (nI 0)), (0, .ref (ad 50)), (1, .int (nI 1))]) hx hb dX4_counted_62 rfl hl (by decide) rfl (fun ls hl => ?_)
    refine lv_iconst (v := nI 0) hx hb dX4_counted_63 (by decide) ?_
    refine lv_istore_n (lv' := [(3, .int (nI 0)), (2, .int (nI 0)), (0, .ref (ad 50)), (1, .int (nI 1))]) hx hb dX4_counted_64 rfl hl (by decide) rfl (fun ls hl => ?_)
    refine m_loop (σ := Nat) (fun i => i ≤ u) (fun i => u - i) (fun i => g) (fun i => [(0, .ref (ad 50)), (2, .int (nI (sumL ln i))), (3, .int (nI i))]) (nL := 4) 0 (Nat.zero_le _) hI (lv_sub hl [2, 1, 0] rfl) ?_
    rintro i hiu ih65 H locs ls hI hl
    have hI : mI k ad N g (mA ad N s.heap.size) s H locs := hI
    have hl : lv_has ls 4 [(0, .ref (ad 50)), (2, .int (nI (sumL ln i))), (3, .int (nI i))] := hl
    have hsm := sumL_le hln i (by omega)
    refine lv_iload_n hx hb dX4_counted_65 rfl (lv_at hl 2 rfl) ?_
    refine lv_aload_n hx hb dX4_counted_66 rfl (lv_at hl 0 rfl) ?_
    refine m_get (ci := 4) (C := RX4) (T := TX4) (N' := 16) hx hb hts (by decide +kernel) hown hE hI 50 (by omega) h50 rfl 4 (by decide) (hts (.fieldLink RX4 7 "TapePrinterModel" "lines" "I") (by decide +kernel)) rfl dX4_counted_67 ?_
    refine m_cgeN (tgt := 88) hx hb (by omega) (by omega) dX4_counted_70 (by decide) (fun c_70 => ?_) (fun c_70 => ?_)
    · refine lv_iload_n hx hb dX4_counted_88 rfl (lv_at hl 1 rfl) ?_
      exact m_iret hx hb hr hlocks hI (⟨by rw [show i = u by omega]; rfl, rfl⟩) dX4_counted_89
    · refine lv_iload_n hx hb dX4_counted_73 rfl (lv_at hl 1 rfl) ?_
      refine lv_aload_n hx hb dX4_counted_74 rfl (lv_at hl 0 rfl) ?_
      refine m_get (ci := 4) (C := RX4) (T := TX4) (N' := 16) hx hb hts (by decide +kernel) hown hE hI 50 (by omega) h50 rfl 5 (by decide) (hts (.fieldLink RX4 13 "TapePrinterModel" "longs" "[I") (by decide +kernel)) rfl dX4_counted_75 ?_
      refine lv_iload_n hx hb dX4_counted_78 rfl (lv_at hl 2 rfl) ?_
      refine m_iald hx hb hE hI 51 (by omega) (j := i) h51 (by omega) (by omega) dX4_counted_79 ?_
      refine m_top (show (fun j => nI (ln j)) i = nI (ln i) from rfl) ?_
      refine m_iaddN hx hb dX4_counted_80 ?_
      refine lv_istore_n (lv' := [(2, .int (nI ((sumL ln i) + (ln i)))), (0, .ref (ad 50)), (3, .int (nI i))]) hx hb dX4_counted_81 rfl hl (by decide) rfl (fun ls hl => ?_)
      refine lv_iinc (v := nI (i + 1)) (lv' := [(3, .int (nI (i + 1))), (2, .int (nI ((sumL ln i) + (ln i)))), (0, .ref (ad 50))]) hx hb dX4_counted_82 hl (k := 2) rfl (nI_add i 1) (by decide) rfl (fun ls hl => ?_)
      refine lv_goto (tgt := 65) hx hb dX4_counted_85 (by decide) ?_
      exact ih65 (i + 1) (show i + 1 ≤ u by omega) (show u - (i + 1) < u - i by omega) _ _ _ hI (lv_sub hl [2, 1, 0] rfl)
  · refine lv_tableIn (tgt := 90) hx hb dX4_counted_1 (by decide) (by decide) (off := 89) (by decide) (by decide) ?_
    refine lv_aload_n hx hb dX4_counted_90 rfl (lv_at hl 0 rfl) ?_
    refine m_get (ci := 4) (C := RX4) (T := TX4) (N' := 16) hx hb hts (by decide +kernel) hown hE hI 50 (by omega) h50 rfl 1 (by decide) (hts (.fieldLink RX4 60 "TapePrinterModel" "isFigures" "Z") (by decide +kernel)) rfl dX4_counted_91 ?_
    refine m_zeqB (tgt := 101) hx hb dX4_counted_94 (by decide) (fun c_94 => ?_) (fun c_94 => ?_)
    · refine lv_iconst (v := nI 0) hx hb dX4_counted_101 (by decide) ?_
      refine m_top (y := bI fig) (by rw [c_94]; decide) ?_
      exact m_iret hx hb hr hlocks hI (⟨rfl, rfl⟩) dX4_counted_102
    · refine lv_iconst (v := nI 1) hx hb dX4_counted_97 (by decide) ?_
      refine lv_goto (tgt := 102) hx hb dX4_counted_98 (by decide) ?_
      refine m_top (y := bI fig) (by rw [c_94]; decide) ?_
      exact m_iret hx hb hr hlocks hI (⟨rfl, rfl⟩) dX4_counted_102
  · refine lv_tableIn (tgt := 103) hx hb dX4_counted_1 (by decide) (by decide) (off := 102) (by decide) (by decide) ?_
    refine lv_aload_n hx hb dX4_counted_103 rfl (lv_at hl 0 rfl) ?_
    refine m_get (ci := 4) (C := RX4) (T := TX4) (N' := 16) hx hb hts (by decide +kernel) hown hE hI 50 (by omega) h50 rfl 3 (by decide) (hts (.fieldLink RX4 64 "TapePrinterModel" "play" "I") (by decide +kernel)) rfl dX4_counted_104 ?_
    exact m_iret hx hb hr hlocks hI (⟨rfl, rfl⟩) dX4_counted_107
  · refine lv_tableIn (tgt := 108) hx hb dX4_counted_1 (by decide) (by decide) (off := 107) (by decide) (by decide) ?_
    refine lv_aload_n hx hb dX4_counted_108 rfl (lv_at hl 0 rfl) ?_
    refine m_get (ci := 4) (C := RX4) (T := TX4) (N' := 16) hx hb hts (by decide +kernel) hown hE hI 50 (by omega) h50 rfl 10 (by decide) (hts (.fieldLink RX4 109 "TapePrinterModel" "codes" "I") (by decide +kernel)) rfl dX4_counted_109 ?_
    exact m_iret hx hb hr hlocks hI (⟨rfl, rfl⟩) dX4_counted_112
  · refine lv_tableIn (tgt := 113) hx hb dX4_counted_1 (by decide) (by decide) (off := 112) (by decide) (by decide) ?_
    refine lv_aload_n hx hb dX4_counted_113 rfl (lv_at hl 0 rfl) ?_
    refine m_get (ci := 4) (C := RX4) (T := TX4) (N' := 16) hx hb hts (by decide +kernel) hown hE hI 50 (by omega) h50 rfl 11 (by decide) (hts (.fieldLink RX4 121 "TapePrinterModel" "reader" "I") (by decide +kernel)) rfl dX4_counted_114 ?_
    exact m_iret hx hb hr hlocks hI (⟨rfl, rfl⟩) dX4_counted_117
  · refine lv_tableIn (tgt := 118) hx hb dX4_counted_1 (by decide) (by decide) (off := 117) (by decide) (by decide) ?_
    refine lv_aload_n hx hb dX4_counted_118 rfl (lv_at hl 0 rfl) ?_
    refine m_get (ci := 4) (C := RX4) (T := TX4) (N' := 16) hx hb hts (by decide +kernel) hown hE hI 50 (by omega) h50 rfl 12 (by decide) (hts (.fieldLink RX4 93 "TapePrinterModel" "came" "I") (by decide +kernel)) rfl dX4_counted_119 ?_
    exact m_iret hx hb hr hlocks hI (⟨rfl, rfl⟩) dX4_counted_122
  · refine lv_tableIn (tgt := 123) hx hb dX4_counted_1 (by decide) (by decide) (off := 122) (by decide) (by decide) ?_
    refine lv_aload_n hx hb dX4_counted_123 rfl (lv_at hl 0 rfl) ?_
    refine m_get (ci := 4) (C := RX4) (T := TX4) (N' := 16) hx hb hts (by decide +kernel) hown hE hI 50 (by omega) h50 rfl 13 (by decide) (hts (.fieldLink RX4 100 "TapePrinterModel" "wrongly" "I") (by decide +kernel)) rfl dX4_counted_124 ?_
    exact m_iret hx hb hr hlocks hI (⟨rfl, rfl⟩) dX4_counted_127
  · refine lv_tableIn (tgt := 128) hx hb dX4_counted_1 (by decide) (by decide) (off := 127) (by decide) (by decide) ?_
    refine lv_aload_n hx hb dX4_counted_128 rfl (lv_at hl 0 rfl) ?_
    refine m_get (ci := 4) (C := RX4) (T := TX4) (N' := 16) hx hb hts (by decide +kernel) hown hE hI 50 (by omega) h50 rfl 14 (by decide) (hts (.fieldLink RX4 70 "TapePrinterModel" "lost" "I") (by decide +kernel)) rfl dX4_counted_129 ?_
    exact m_iret hx hb hr hlocks hI (⟨rfl, rfl⟩) dX4_counted_132
  · refine lv_tableIn (tgt := 133) hx hb dX4_counted_1 (by decide) (by decide) (off := 132) (by decide) (by decide) ?_
    refine lv_aload_n hx hb dX4_counted_133 rfl (lv_at hl 0 rfl) ?_
    refine m_get (ci := 4) (C := RX4) (T := TX4) (N' := 16) hx hb hts (by decide +kernel) hown hE hI 50 (by omega) h50 rfl 2 (by decide) (hts (.fieldLink RX4 67 "TapePrinterModel" "unshifts" "Z") (by decide +kernel)) rfl dX4_counted_134 ?_
    refine m_zeqB (tgt := 144) hx hb dX4_counted_137 (by decide) (fun c_137 => ?_) (fun c_137 => ?_)
    · refine lv_iconst (v := nI 0) hx hb dX4_counted_144 (by decide) ?_
      refine m_top (y := bI uns) (by rw [c_137]; decide) ?_
      exact m_iret hx hb hr hlocks hI (⟨rfl, rfl⟩) dX4_counted_145
    · refine lv_iconst (v := nI 1) hx hb dX4_counted_140 (by decide) ?_
      refine lv_goto (tgt := 145) hx hb dX4_counted_141 (by decide) ?_
      refine m_top (y := bI uns) (by rw [c_137]; decide) ?_
      exact m_iret hx hb hr hlocks hI (⟨rfl, rfl⟩) dX4_counted_145
  · refine lv_tableOut (tgt := 146) hx hb dX4_counted_1 (by decide) (by decide) ?_
    refine lv_aload_n hx hb dX4_counted_146 rfl (lv_at hl 0 rfl) ?_
    refine m_get (ci := 4) (C := RX4) (T := TX4) (N' := 16) hx hb hts (by decide +kernel) hown hE hI 50 (by omega) h50 rfl 15 (by decide) (hts (.fieldLink RX4 82 "TapePrinterModel" "rang" "I") (by decide +kernel)) rfl dX4_counted_147 ?_
    exact m_iret hx hb hr hlocks hI (⟨rfl, rfl⟩) dX4_counted_150
set_option maxHeartbeats 8000000 in
set_option maxRecDepth 100000 in
theorem c_X4_isShift (k : mC) (l : Launch) (ad : Nat → Nat) (N : Nat) (g : Nat → va_E) (sz : Nat) (th : Nat) (uns : Bool) (play rd n : Nat) (lat : Nat → Int32) (gar T : Nat → Nat) (came : Nat) (mis lost bel : Int32) (fig : Bool) (u : Nat) (ln pg : Nat → Nat) (x : Nat) (hN : 56 ≤ N) (hW : CW play rd n lat gar T) (hwf : mWf (u, ln, pg)) (hcame : came < 2147483648) (hM0 : MR k ad g th uns play rd n lat gar T (came, mis, lost, bel, fig, u, ln, pg)) (hx32 : x < 32) : mCi k l yX4_isShift wsX4_isShift { frames := 0, cells := 0, slots := 0, locals := 0 } ad N g sz [.ref (ad 50), .int (nI x)] (fun r1 g1 => r1 = bI (decide (x = 27) || stl uns x) ∧ g1 = g) := by
  refine mOf (Qc := fun z9 => va_Qi (fun r1 g1 => r1 = bI (decide (x = 27) || stl uns x) ∧ g1 = g) (mB k ad N) (mA ad N z9)) (cc := cX4_isShift) (maxL := 2) (ret := (some .boolean)) (by decide) rfl (Nat.le_of_ble_eq_true rfl) ?_
  intro p e s m below meth c hx hb hr hts hown hlocks hml hin hE hI ls hl
  have hl : lv_has ls 2 [(0, .ref (ad 50)), (1, .int (nI x))] := hl
  have h50 : g 50 = .inr (4, [.int (nI th), .int (bI fig), .int (bI uns), .int (nI play), .int (nI u), .ref (ad 51), .ref (ad 52), .ref (ad 53), .ref (ad 54), .ref (ad 55), .int (nI n), .int (nI rd), .int (nI came), .int mis, .int lost, .int bel]) := hM0.1
  have h51 : g 51 = .inl (k.2.1.1, 20, .inl (fun j => nI (ln j))) := hM0.2.1
  have h52 : g 52 = .inl (k.2.1.1, 800, .inl (fun j => nI (pg j))) := hM0.2.2.1
  have h53 : g 53 = .inl (k.2.1.1, 16, .inl lat) := hM0.2.2.2.1
  have h54 : g 54 = .inl (k.2.1.1, 16, .inl (fun j => nI (gar j))) := hM0.2.2.2.2.1
  have h55 : g 55 = .inl (k.2.1.1, 120, .inl (fun j => nI (T j))) := hM0.2.2.2.2.2
  obtain ⟨hplay, hrd, hn, hgar, hT, hlat⟩ := id hW
  have hu0 : 0 < u := hwf.1
  have hu : u ≤ 20 := hwf.2.1
  have hln : ∀ j, j < 20 → ln j ≤ 40 := hwf.2.2
  refine lv_iload_n hx hb dX4_isShift_0 rfl (lv_at hl 1 rfl) ?_
  refine lv_bipush (v := nI 31) hx hb dX4_isShift_1 (by decide) ?_
  refine m_ceqN (tgt := 29) hx hb (by omega) (by omega) dX4_isShift_3 (by decide) (fun c_3 => ?_) (fun c_3 => ?_)
  · refine lv_iconst (v := nI 1) hx hb dX4_isShift_29 (by decide) ?_
    refine lv_goto (tgt := 34) hx hb dX4_isShift_30 (by decide) ?_
    refine m_top (y := bI true) (by decide) ?_
    exact m_zret (v := true) hx hb hr hlocks hI (⟨by rw [c_3]; rfl, rfl⟩) dX4_isShift_34
  · refine lv_iload_n hx hb dX4_isShift_6 rfl (lv_at hl 1 rfl) ?_
    refine lv_bipush (v := nI 27) hx hb dX4_isShift_7 (by decide) ?_
    refine m_ceqN (tgt := 29) hx hb (by omega) (by omega) dX4_isShift_9 (by decide) (fun c_9 => ?_) (fun c_9 => ?_)
    · refine lv_iconst (v := nI 1) hx hb dX4_isShift_29 (by decide) ?_
      refine lv_goto (tgt := 34) hx hb dX4_isShift_30 (by decide) ?_
      refine m_top (y := bI true) (by decide) ?_
      exact m_zret (v := true) hx hb hr hlocks hI (⟨by rw [c_9]; rfl, rfl⟩) dX4_isShift_34
    · refine lv_iload_n hx hb dX4_isShift_12 rfl (lv_at hl 1 rfl) ?_
      refine lv_iconst (v := nI 2) hx hb dX4_isShift_13 (by decide) ?_
      refine m_ceqN (tgt := 29) hx hb (by omega) (by omega) dX4_isShift_14 (by decide) (fun c_14 => ?_) (fun c_14 => ?_)
      · refine lv_iconst (v := nI 1) hx hb dX4_isShift_29 (by decide) ?_
        refine lv_goto (tgt := 34) hx hb dX4_isShift_30 (by decide) ?_
        refine m_top (y := bI true) (by decide) ?_
        exact m_zret (v := true) hx hb hr hlocks hI (⟨by rw [c_14]; rfl, rfl⟩) dX4_isShift_34
      · refine lv_iload_n hx hb dX4_isShift_17 rfl (lv_at hl 1 rfl) ?_
        refine lv_iconst (v := nI 4) hx hb dX4_isShift_18 (by decide) ?_
        refine m_cneN (tgt := 33) hx hb (by omega) (by omega) dX4_isShift_19 (by decide) (fun c_19 => ?_) (fun c_19 => ?_)
        · refine lv_iconst (v := nI 0) hx hb dX4_isShift_33 (by decide) ?_
          refine m_top (y := bI false) (by decide) ?_
          exact m_zret (v := false) hx hb hr hlocks hI (⟨by unfold stl; rw [decide_eq_false c_3, decide_eq_false c_9, decide_eq_false c_14, decide_eq_false c_19, Bool.and_false] <;> rfl, rfl⟩) dX4_isShift_34
        · refine lv_aload_n hx hb dX4_isShift_22 rfl (lv_at hl 0 rfl) ?_
          refine m_get (ci := 4) (C := RX4) (T := TX4) (N' := 16) hx hb hts (by decide +kernel) hown hE hI 50 (by omega) h50 rfl 2 (by decide) (hts (.fieldLink RX4 67 "TapePrinterModel" "unshifts" "Z") (by decide +kernel)) rfl dX4_isShift_23 ?_
          refine m_zeqB (tgt := 33) hx hb dX4_isShift_26 (by decide) (fun c_26 => ?_) (fun c_26 => ?_)
          · refine lv_iconst (v := nI 0) hx hb dX4_isShift_33 (by decide) ?_
            refine m_top (y := bI false) (by decide) ?_
            exact m_zret (v := false) hx hb hr hlocks hI (⟨by unfold stl; rw [decide_eq_false c_3, decide_eq_false c_9, decide_eq_false c_14, c_26] <;> rfl, rfl⟩) dX4_isShift_34
          · refine lv_iconst (v := nI 1) hx hb dX4_isShift_29 (by decide) ?_
            refine lv_goto (tgt := 34) hx hb dX4_isShift_30 (by decide) ?_
            refine m_top (y := bI true) (by decide) ?_
            exact m_zret (v := true) hx hb hr hlocks hI (⟨by rw [c_26, c_19] <;> rfl, rfl⟩) dX4_isShift_34
set_option maxHeartbeats 8000000 in
set_option maxRecDepth 100000 in
theorem c_X4_isIdle (k : mC) (l : Launch) (ad : Nat → Nat) (N : Nat) (g : Nat → va_E) (sz : Nat) (th : Nat) (uns : Bool) (play rd n : Nat) (lat : Nat → Int32) (gar T : Nat → Nat) (came : Nat) (mis lost bel : Int32) (fig : Bool) (u : Nat) (ln pg : Nat → Nat) (p0 : Nat) (hN : 56 ≤ N) (hW : CW play rd n lat gar T) (hwf : mWf (u, ln, pg)) (hcame : came < 2147483648) (hM0 : MR k ad g th uns play rd n lat gar T (came, mis, lost, bel, fig, u, ln, pg)) (hp0 : p0 < n) : mCi k l yX4_isIdle wsX4_isIdle { frames := 2, cells := 0, slots := 0, locals := 45 } ad N g sz [.ref (ad 50), .int (nI p0)] (fun r1 g1 => r1 = bI ((decide (fb uns (T p0) (fa uns T p0) = fa uns T p0) || !sv uns T (n - (p0 + 1)) (p0 + 1))) ∧ g1 = g) := by
  refine mOf (Qc := fun z9 => va_Qi (fun r1 g1 => r1 = bI ((decide (fb uns (T p0) (fa uns T p0) = fa uns T p0) || !sv uns T (n - (p0 + 1)) (p0 + 1))) ∧ g1 = g) (mB k ad N) (mA ad N z9)) (cc := cX4_isIdle) (maxL := 3) (ret := (some .boolean)) (by decide) rfl (Nat.le_of_ble_eq_true rfl) ?_
  intro p e s m below meth c hx hb hr hts hown hlocks hml hin hE hI ls hl
  have hl : lv_has ls 3 [(0, .ref (ad 50)), (1, .int (nI p0))] := hl
  have h50 : g 50 = .inr (4, [.int (nI th), .int (bI fig), .int (bI uns), .int (nI play), .int (nI u), .ref (ad 51), .ref (ad 52), .ref (ad 53), .ref (ad 54), .ref (ad 55), .int (nI n), .int (nI rd), .int (nI came), .int mis, .int lost, .int bel]) := hM0.1
  have h51 : g 51 = .inl (k.2.1.1, 20, .inl (fun j => nI (ln j))) := hM0.2.1
  have h52 : g 52 = .inl (k.2.1.1, 800, .inl (fun j => nI (pg j))) := hM0.2.2.1
  have h53 : g 53 = .inl (k.2.1.1, 16, .inl lat) := hM0.2.2.2.1
  have h54 : g 54 = .inl (k.2.1.1, 16, .inl (fun j => nI (gar j))) := hM0.2.2.2.2.1
  have h55 : g 55 = .inl (k.2.1.1, 120, .inl (fun j => nI (T j))) := hM0.2.2.2.2.2
  obtain ⟨hplay, hrd, hn, hgar, hT, hlat⟩ := id hW
  have hu0 : 0 < u := hwf.1
  have hu : u ≤ 20 := hwf.2.1
  have hln : ∀ j, j < 20 → ln j ≤ 40 := hwf.2.2
  refine lv_aload_n hx hb dX4_isIdle_0 rfl (lv_at hl 0 rfl) ?_
  refine lv_aload_n hx hb dX4_isIdle_1 rfl (lv_at hl 0 rfl) ?_
  refine lv_iload_n hx hb dX4_isIdle_2 rfl (lv_at hl 1 rfl) ?_
  refine m_callVi (As := [.int (nI p0)]) (rest := [.ref (ad 50)]) ⟨hx, hb, hml, hown, hts⟩ hE hI (c_X4_shiftAt k l ad N g _ th uns play rd n lat gar T came mis lost bel fig u ln pg p0 (by omega) hW hwf (by omega) ⟨h50, h51, h52, h53, h54, h55⟩ (by omega)) (cwV 1 hts gX4_isIdle_X4_shiftAt rfl rfl rfl (by decide +kernel) ⟨Nat.le_of_ble_eq_true rfl, Nat.le_of_ble_eq_true rfl⟩) (i := 50) (by omega) h50 rfl rfl hl.1 rfl (Nat.le_of_ble_eq_true rfl) dX4_isIdle_3 ⟨Nat.le_of_ble_eq_true rfl, Nat.le_of_ble_eq_true rfl⟩ (m_deti (fun H locs hI => ?_))
  refine lv_aload_n hx hb dX4_isIdle_6 rfl (lv_at hl 0 rfl) ?_
  refine m_get (ci := 4) (C := RX4) (T := TX4) (N' := 16) hx hb hts (by decide +kernel) hown hE hI 50 (by omega) h50 rfl 9 (by decide) (hts (.fieldLink RX4 26 "TapePrinterModel" "tape" "[I") (by decide +kernel)) rfl dX4_isIdle_7 ?_
  refine lv_iload_n hx hb dX4_isIdle_10 rfl (lv_at hl 1 rfl) ?_
  refine m_iald hx hb hE hI 55 (by omega) (j := p0) h55 (by omega) (by omega) dX4_isIdle_11 ?_
  refine m_top (show (fun j => nI (T j)) p0 = nI (T p0) from rfl) ?_
  have ht_1 := hT p0
  refine m_callVi (As := [.int (bI (fa uns T p0)), .int (nI (T p0))]) (rest := []) ⟨hx, hb, hml, hown, hts⟩ hE hI (c_X4_shift k l ad N g _ th uns play rd n lat gar T came mis lost bel fig u ln pg (fa uns T p0) (T p0) (by omega) hW hwf (by omega) ⟨h50, h51, h52, h53, h54, h55⟩ (hT _)) (cwV 2 hts gX4_isIdle_X4_shift rfl rfl rfl (by decide +kernel) ⟨Nat.le_of_ble_eq_true rfl, Nat.le_of_ble_eq_true rfl⟩) (i := 50) (by omega) h50 rfl rfl hl.1 rfl (Nat.le_of_ble_eq_true rfl) dX4_isIdle_12 ⟨Nat.le_of_ble_eq_true rfl, Nat.le_of_ble_eq_true rfl⟩ (m_deti (fun H locs hI => ?_))
  refine lv_aload_n hx hb dX4_isIdle_15 rfl (lv_at hl 0 rfl) ?_
  refine lv_iload_n hx hb dX4_isIdle_16 rfl (lv_at hl 1 rfl) ?_
  refine m_callVi (As := [.int (nI p0)]) (rest := [.int (bI (fb uns (T p0) (fa uns T p0)))]) ⟨hx, hb, hml, hown, hts⟩ hE hI (c_X4_shiftAt k l ad N g _ th uns play rd n lat gar T came mis lost bel fig u ln pg p0 (by omega) hW hwf (by omega) ⟨h50, h51, h52, h53, h54, h55⟩ (by omega)) (cwV 1 hts gX4_isIdle_X4_shiftAt rfl rfl rfl (by decide +kernel) ⟨Nat.le_of_ble_eq_true rfl, Nat.le_of_ble_eq_true rfl⟩) (i := 50) (by omega) h50 rfl rfl hl.1 rfl (Nat.le_of_ble_eq_true rfl) dX4_isIdle_17 ⟨Nat.le_of_ble_eq_true rfl, Nat.le_of_ble_eq_true rfl⟩ (m_deti (fun H locs hI => ?_))
  refine m_cneB (tgt := 25) hx hb dX4_isIdle_20 (by decide) (fun c_20 => ?_) (fun c_20 => ?_)
  · refine lv_iload_n hx hb dX4_isIdle_25 rfl (lv_at hl 1 rfl) ?_
    refine lv_iconst (v := nI 1) hx hb dX4_isIdle_26 (by decide) ?_
    refine m_iaddN hx hb dX4_isIdle_27 ?_
    refine lv_istore_n (lv' := [(2, .int (nI (p0 + 1))), (0, .ref (ad 50)), (1, .int (nI p0))]) hx hb dX4_isIdle_28 rfl hl (by decide) rfl (fun ls hl => ?_)
    refine m_loop (σ := Nat) (fun i => i ≤ n ∧ sv uns T (n - i) i = sv uns T (n - (p0 + 1)) (p0 + 1)) (fun i => n - i) (fun i => g) (fun i => [(0, .ref (ad 50)), (1, .int (nI p0)), (2, .int (nI i))]) (nL := 3) (p0 + 1) ⟨by omega, rfl⟩ hI (lv_sub hl [1, 2, 0] rfl) ?_
    rintro i ⟨hin1, hsv⟩ ih29 H locs ls hI hl
    have hI : mI k ad N g (mA ad N s.heap.size) s H locs := hI
    have hl : lv_has ls 3 [(0, .ref (ad 50)), (1, .int (nI p0)), (2, .int (nI i))] := hl
    refine lv_iload_n hx hb dX4_isIdle_29 rfl (lv_at hl 2 rfl) ?_
    refine lv_aload_n hx hb dX4_isIdle_30 rfl (lv_at hl 0 rfl) ?_
    refine m_get (ci := 4) (C := RX4) (T := TX4) (N' := 16) hx hb hts (by decide +kernel) hown hE hI 50 (by omega) h50 rfl 10 (by decide) (hts (.fieldLink RX4 109 "TapePrinterModel" "codes" "I") (by decide +kernel)) rfl dX4_isIdle_31 ?_
    refine m_cgeN (tgt := 70) hx hb (by omega) (by omega) dX4_isIdle_34 (by decide) (fun c_34 => ?_) (fun c_34 => ?_)
    · refine lv_iconst (v := nI 1) hx hb dX4_isIdle_70 (by decide) ?_
      refine m_top (y := bI true) (by decide) ?_
      exact m_zret (v := true) hx hb hr hlocks hI (⟨by rw [decide_eq_false c_20, ← hsv, show n - i = 0 by omega] <;> rfl, rfl⟩) dX4_isIdle_71
    · have hsv1 : sv uns T (n - i) i = if dep (T i) then true else if decide (T i = 27) || stl uns (T i) then false else sv uns T (n - (i + 1)) (i + 1) := by rw [show n - i = (n - (i + 1)) + 1 by omega]; rfl
      refine lv_aload_n hx hb dX4_isIdle_37 rfl (lv_at hl 0 rfl) ?_
      refine lv_aload_n hx hb dX4_isIdle_38 rfl (lv_at hl 0 rfl) ?_
      refine m_get (ci := 4) (C := RX4) (T := TX4) (N' := 16) hx hb hts (by decide +kernel) hown hE hI 50 (by omega) h50 rfl 9 (by decide) (hts (.fieldLink RX4 26 "TapePrinterModel" "tape" "[I") (by decide +kernel)) rfl dX4_isIdle_39 ?_
      refine lv_iload_n hx hb dX4_isIdle_42 rfl (lv_at hl 2 rfl) ?_
      refine m_iald hx hb hE hI 55 (by omega) (j := i) h55 (by omega) (by omega) dX4_isIdle_43 ?_
      refine m_top (show (fun j => nI (T j)) i = nI (T i) from rfl) ?_
      have ht_2 := hT i
      refine m_callVi (As := [.int (nI (T i))]) (rest := []) ⟨hx, hb, hml, hown, hts⟩ hE hI (c_X4_isShift k l ad N g _ th uns play rd n lat gar T came mis lost bel fig u ln pg (T i) (by omega) hW hwf (by omega) ⟨h50, h51, h52, h53, h54, h55⟩ (hT _)) (cwV 1 hts gX4_isIdle_X4_isShift rfl rfl rfl (by decide +kernel) ⟨Nat.le_of_ble_eq_true rfl, Nat.le_of_ble_eq_true rfl⟩) (i := 50) (by omega) h50 rfl rfl hl.1 rfl (Nat.le_of_ble_eq_true rfl) dX4_isIdle_44 ⟨Nat.le_of_ble_eq_true rfl, Nat.le_of_ble_eq_true rfl⟩ (m_deti (fun H locs hI => ?_))
      refine m_zneB (tgt := 70) hx hb dX4_isIdle_47 (by decide) (fun c_47 => ?_) (fun c_47 => ?_)
      · refine lv_iconst (v := nI 1) hx hb dX4_isIdle_70 (by decide) ?_
        refine m_top (y := bI true) (by decide) ?_
        exact m_zret (v := true) hx hb hr hlocks hI (⟨by rw [decide_eq_false c_20, ← hsv, hsv1, msh_dep _ (hT _) _ c_47, c_47] <;> rfl, rfl⟩) dX4_isIdle_71
      · refine lv_aload_n hx hb dX4_isIdle_50 rfl (lv_at hl 0 rfl) ?_
        refine m_get (ci := 4) (C := RX4) (T := TX4) (N' := 16) hx hb hts (by decide +kernel) hown hE hI 50 (by omega) h50 rfl 9 (by decide) (hts (.fieldLink RX4 26 "TapePrinterModel" "tape" "[I") (by decide +kernel)) rfl dX4_isIdle_51 ?_
        refine lv_iload_n hx hb dX4_isIdle_54 rfl (lv_at hl 2 rfl) ?_
        refine m_iald hx hb hE hI 55 (by omega) (j := i) h55 (by omega) (by omega) dX4_isIdle_55 ?_
        refine m_top (show (fun j => nI (T j)) i = nI (T i) from rfl) ?_
        have ht_3 := hT i
        refine m_callSi (As := [.int (nI (T i))]) (rest := []) ⟨hx, hb, hml, hown, hts⟩ hE hI (c_X4_isType k l ad N g _ (T i) (hT _)) (va_cwS 1 hts gX4_isIdle_X4_isType rfl rfl rfl (by decide +kernel) ⟨Nat.le_of_ble_eq_true rfl, Nat.le_of_ble_eq_true rfl⟩) rfl hl.1 rfl (Nat.le_of_ble_eq_true rfl) dX4_isIdle_56 ⟨Nat.le_of_ble_eq_true rfl, Nat.le_of_ble_eq_true rfl⟩ (m_deti (fun H locs hI => ?_))
        refine m_zeqB (tgt := 64) hx hb dX4_isIdle_59 (by decide) (fun c_59 => ?_) (fun c_59 => ?_)
        · refine lv_iinc (v := nI (i + 1)) (lv' := [(2, .int (nI (i + 1))), (0, .ref (ad 50)), (1, .int (nI p0))]) hx hb dX4_isIdle_64 hl (k := 2) rfl (nI_add i 1) (by decide) rfl (fun ls hl => ?_)
          refine lv_goto (tgt := 29) hx hb dX4_isIdle_67 (by decide) ?_
          exact ih29 (i + 1) ⟨by omega, by rw [← hsv, hsv1, c_59, c_47] <;> rfl⟩ (show n - (i + 1) < n - i by omega) _ _ _ hI (lv_sub hl [1, 2, 0] rfl)
        · refine lv_iconst (v := nI 0) hx hb dX4_isIdle_62 (by decide) ?_
          refine m_top (y := bI false) (by decide) ?_
          exact m_zret (v := false) hx hb hr hlocks hI (⟨by rw [decide_eq_false c_20, ← hsv, hsv1, c_59] <;> rfl, rfl⟩) dX4_isIdle_63
  · refine lv_iconst (v := nI 1) hx hb dX4_isIdle_23 (by decide) ?_
    refine m_top (y := bI true) (by decide) ?_
    exact m_zret (v := true) hx hb hr hlocks hI (⟨by rw [decide_eq_true c_20] <;> rfl, rfl⟩) dX4_isIdle_24
