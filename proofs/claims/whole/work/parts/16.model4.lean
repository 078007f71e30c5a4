set_option maxHeartbeats 8000000 in
set_option maxRecDepth 100000 in
theorem c_X4_code (k : mC) (l : Launch) (ad : Nat → Nat) (N : Nat) (g : Nat → va_E) (sz : Nat) (th : Nat) (uns : Bool) (play rd n : Nat) (lat : Nat → Int32) (gar T : Nat → Nat) (came : Nat) (mis lost bel : Int32) (fig : Bool) (u : Nat) (ln pg : Nat → Nat) (p0 : Int32) (hN : 56 ≤ N) (hW : CW play rd n lat gar T) (hwf : mWf (u, ln, pg)) (hcame : came < 2000000000) (hM0 : MR k ad g th uns play rd n lat gar T (came, mis, lost, bel, fig, u, ln, pg))  : mCi k l yX4_code wsX4_code { frames := 2, cells := 0, slots := 0, locals := 42 } ad N g sz [.ref (ad 50), .int p0] (fun r1 g1 => ((inC p0 = true ∧ r1 = nI (cd (tn p0)) ∧ MR k ad g1 0 uns play rd n lat gar T (came, mis, lost, bel, fig, u, ln, pg)) ∨ (inC p0 = false ∧ MR k ad g1 1 uns play rd n lat gar T (came, mis, lost, bel, fig, u, ln, pg))) ∧ ∀ i, (i < 50 ∨ 56 ≤ i) → g1 i = g i) := by
  refine mOf (Qc := fun z9 => va_Qi (fun r1 g1 => ((inC p0 = true ∧ r1 = nI (cd (tn p0)) ∧ MR k ad g1 0 uns play rd n lat gar T (came, mis, lost, bel, fig, u, ln, pg)) ∨ (inC p0 = false ∧ MR k ad g1 1 uns play rd n lat gar T (came, mis, lost, bel, fig, u, ln, pg))) ∧ ∀ i, (i < 50 ∨ 56 ≤ i) → g1 i = g i) (mB k ad N) (mA ad N z9)) (cc := cX4_code) (maxL := 2) (ret := (some .int)) (by decide) rfl (Nat.le_of_ble_eq_true rfl) ?_
  intro p e s m below meth c hx hb hr hts hown hlocks hml hin hE hI ls hl
  have hl : lv_has ls 2 [(0, .ref (ad 50)), (1, .int p0)] := hl
  have h50 : g 50 = .inr (4, [.int (nI th), .int (bI fig), .int (bI uns), .int (nI play), .int (nI u), .ref (ad 51), .ref (ad 52), .ref (ad 53), .ref (ad 54), .ref (ad 55), .int (nI n), .int (nI rd), .int (nI came), .int mis, .int lost, .int bel]) := hM0.1
  have h51 : g 51 = .inl (k.2.1.1, 20, .inl (fun j => nI (ln j))) := hM0.2.1
  have h52 : g 52 = .inl (k.2.1.1, 800, .inl (fun j => nI (pg j))) := hM0.2.2.1
  have h53 : g 53 = .inl (k.2.1.1, 16, .inl lat) := hM0.2.2.2.1
  have h54 : g 54 = .inl (k.2.1.1, 16, .inl (fun j => nI (gar j))) := hM0.2.2.2.2.1
  have h55 : g 55 = .inl (k.2.1.1, 120, .inl (fun j => nI (T j))) := hM0.2.2.2.2.2
  obtain ⟨hplay, hrd, hn, hgar, hT, hlat⟩ := id hW
  have hu0 : 0 < u := hwf.1
  have hu : u ≤ 20 := hwf.2.1
  have hln : ∀ j, j < 20 → ln j ≤ 40 := hwf.2.2
  refine lv_aload_n hx hb dX4_code_0 rfl (lv_at hl 0 rfl) ?_
  refine lv_iconst (v := nI 0) hx hb dX4_code_1 (by decide) ?_
  refine m_put (ci := 4) (C := RX4) (T := TX4) (N' := 16) (ty := .int) hx hb hts (by decide +kernel) tyX4 tyX4_ok nmX4 hown hE hI 50 (by omega) h50 rfl 0 (by decide) (hts (.fieldLink RX4 29 "TapePrinterModel" "thrown" "I") (by decide +kernel)) rfl (by decide +kernel) rfl rfl (Nat.le_of_ble_eq_true rfl) dX4_code_2 (fun H locs hI => ?_)
  obtain ⟨g1, hg1⟩ : ∃ zz, zz = va_up g 50 (.inr (4, [.int (nI 0), .int (bI fig), .int (bI uns), .int (nI play), .int (nI u), .ref (ad 51), .ref (ad 52), .ref (ad 53), .ref (ad 54), .ref (ad 55), .int (nI n), .int (nI rd), .int (nI came), .int mis, .int lost, .int bel])) := ⟨_, rfl⟩
  replace hI : mI k ad N g1 (mA ad N s.heap.size) s H locs := by rw [hg1]; exact hI
  have m_1 : g1 50 = .inr (4, [.int (nI 0), .int (bI fig), .int (bI uns), .int (nI play), .int (nI u), .ref (ad 51), .ref (ad 52), .ref (ad 53), .ref (ad 54), .ref (ad 55), .int (nI n), .int (nI rd), .int (nI came), .int mis, .int lost, .int bel]) := by rw [hg1, va_up_self]
  have m_2 : g1 51 = .inl (k.2.1.1, 20, .inl (fun j => nI (ln j))) := by rw [hg1, va_up_ne _ _ (by omega)]; exact h51
  have m_3 : g1 52 = .inl (k.2.1.1, 800, .inl (fun j => nI (pg j))) := by rw [hg1, va_up_ne _ _ (by omega)]; exact h52
  have m_4 : g1 53 = .inl (k.2.1.1, 16, .inl lat) := by rw [hg1, va_up_ne _ _ (by omega)]; exact h53
  have m_5 : g1 54 = .inl (k.2.1.1, 16, .inl (fun j => nI (gar j))) := by rw [hg1, va_up_ne _ _ (by omega)]; exact h54
  have m_6 : g1 55 = .inl (k.2.1.1, 120, .inl (fun j => nI (T j))) := by rw [hg1, va_up_ne _ _ (by omega)]; exact h55
  refine lv_iload_n hx hb dX4_code_5 rfl (lv_at hl 1 rfl) ?_
  refine m_callSi (As := [.int p0]) (rest := []) ⟨hx, hb, hml, hown, hts⟩ hE hI (c_X4_isCharacter k l ad N g1 _ p0 ) (va_cwS 1 hts gX4_code_X4_isCharacter rfl rfl rfl (by decide +kernel) ⟨Nat.le_of_ble_eq_true rfl, Nat.le_of_ble_eq_true rfl⟩) rfl hl.1 rfl (Nat.le_of_ble_eq_true rfl) dX4_code_6 ⟨Nat.le_of_ble_eq_true rfl, Nat.le_of_ble_eq_true rfl⟩ (m_deti (fun H locs hI => ?_))
  refine m_zeqB (tgt := 19) hx hb dX4_code_9 (by decide) (fun c_9 => ?_) (fun c_9 => ?_)
  · refine lv_aload_n hx hb dX4_code_19 rfl (lv_at hl 0 rfl) ?_
    refine lv_iconst (v := nI 1) hx hb dX4_code_20 (by decide) ?_
    refine m_callVi (As := [.int (nI 1)]) (rest := []) ⟨hx, hb, hml, hown, hts⟩ hE hI (c_X4_fail k l ad N g1 _ 0 uns play rd n lat gar T came mis lost bel fig u ln pg 1 (by omega) hW hwf (by omega) ⟨m_1, m_2, m_3, m_4, m_5, m_6⟩ ) (cwV 1 hts gX4_code_X4_fail rfl rfl rfl (by decide +kernel) ⟨Nat.le_of_ble_eq_true rfl, Nat.le_of_ble_eq_true rfl⟩) (i := 50) (by omega) m_1 rfl rfl hl.1 rfl (Nat.le_of_ble_eq_true rfl) dX4_code_21 ⟨Nat.le_of_ble_eq_true rfl, Nat.le_of_ble_eq_true rfl⟩ (m_deti (fun H locs hI => ?_))
    obtain ⟨g2, hg2⟩ : ∃ zz, zz = va_up g1 50 (.inr (4, [.int (nI 1), .int (bI fig), .int (bI uns), .int (nI play), .int (nI u), .ref (ad 51), .ref (ad 52), .ref (ad 53), .ref (ad 54), .ref (ad 55), .int (nI n), .int (nI rd), .int (nI came), .int mis, .int lost, .int bel])) := ⟨_, rfl⟩
    replace hI : mI k ad N g2 (mA ad N s.heap.size) s H locs := by rw [hg2]; exact hI
    have m_7 : g2 50 = .inr (4, [.int (nI 1), .int (bI fig), .int (bI uns), .int (nI play), .int (nI u), .ref (ad 51), .ref (ad 52), .ref (ad 53), .ref (ad 54), .ref (ad 55), .int (nI n), .int (nI rd), .int (nI came), .int mis, .int lost, .int bel]) := by rw [hg2, va_up_self]
    have m_8 : g2 51 = .inl (k.2.1.1, 20, .inl (fun j => nI (ln j))) := by rw [hg2, va_up_ne _ _ (by omega)]; exact m_2
    have m_9 : g2 52 = .inl (k.2.1.1, 800, .inl (fun j => nI (pg j))) := by rw [hg2, va_up_ne _ _ (by omega)]; exact m_3
    have m_10 : g2 53 = .inl (k.2.1.1, 16, .inl lat) := by rw [hg2, va_up_ne _ _ (by omega)]; exact m_4
    have m_11 : g2 54 = .inl (k.2.1.1, 16, .inl (fun j => nI (gar j))) := by rw [hg2, va_up_ne _ _ (by omega)]; exact m_5
    have m_12 : g2 55 = .inl (k.2.1.1, 120, .inl (fun j => nI (T j))) := by rw [hg2, va_up_ne _ _ (by omega)]; exact m_6
    exact m_iret hx hb hr hlocks hI (⟨Or.inr (⟨c_9, ⟨m_7, m_8, m_9, m_10, m_11, m_12⟩⟩), fun i hi => by rw [hg2, va_up_ne _ _ (by omega), hg1, va_up_ne _ _ (by omega)]⟩) dX4_code_24
  · obtain ⟨j, h1j, hj, rfl⟩ := inC_ex c_9
    have hicj : inC (nI j) = true := c_9
    have htnj := tn_nI (j := j) (by omega)
    have hl : lv_has ls 2 [(0, .ref (ad 50)), (1, .int (nI j))] := hl
    refine lv_iload_n hx hb dX4_code_12 rfl (lv_at hl 1 rfl) ?_
    refine m_callSi (As := [.int (nI j)]) (rest := []) ⟨hx, hb, hml, hown, hts⟩ hE hI (c_X4_codeOf k l ad N g1 _ j (by omega) (by omega)) (va_cwS 1 hts gX4_code_X4_codeOf rfl rfl rfl (by decide +kernel) ⟨Nat.le_of_ble_eq_true rfl, Nat.le_of_ble_eq_true rfl⟩) rfl hl.1 rfl (Nat.le_of_ble_eq_true rfl) dX4_code_13 ⟨Nat.le_of_ble_eq_true rfl, Nat.le_of_ble_eq_true rfl⟩ (m_deti (fun H locs hI => ?_))
    refine lv_goto (tgt := 24) hx hb dX4_code_16 (by decide) ?_
    exact m_iret hx hb hr hlocks hI (⟨Or.inl (⟨hicj, by rw [htnj], ⟨m_1, m_2, m_3, m_4, m_5, m_6⟩⟩), fun i hi => by rw [hg1, va_up_ne _ _ (by omega)]⟩) dX4_code_24
set_option maxHeartbeats 8000000 in
set_option maxRecDepth 100000 in
theorem c_X4_character (k : mC) (l : Launch) (ad : Nat → Nat) (N : Nat) (g : Nat → va_E) (sz : Nat) (th : Nat) (uns : Bool) (play rd n : Nat) (lat : Nat → Int32) (gar T : Nat → Nat) (came : Nat) (mis lost bel : Int32) (fig : Bool) (u : Nat) (ln pg : Nat → Nat) (p0 : Int32) (b0 : Bool) (hN : 56 ≤ N) (hW : CW play rd n lat gar T) (hwf : mWf (u, ln, pg)) (hcame : came < 2000000000) (hM0 : MR k ad g th uns play rd n lat gar T (came, mis, lost, bel, fig, u, ln, pg))  : mCi k l yX4_character wsX4_character { frames := 2, cells := 0, slots := 0, locals := 43 } ad N g sz [.ref (ad 50), .int p0, .int (bI b0)] (fun r1 g1 => ((inN p0 32 = true ∧ r1 = nI (chF (tn p0) b0) ∧ MR k ad g1 0 uns play rd n lat gar T (came, mis, lost, bel, fig, u, ln, pg)) ∨ (inN p0 32 = false ∧ MR k ad g1 1 uns play rd n lat gar T (came, mis, lost, bel, fig, u, ln, pg))) ∧ ∀ i, (i < 50 ∨ 56 ≤ i) → g1 i = g i) := by
  refine mOf (Qc := fun z9 => va_Qi (fun r1 g1 => ((inN p0 32 = true ∧ r1 = nI (chF (tn p0) b0) ∧ MR k ad g1 0 uns play rd n lat gar T (came, mis, lost, bel, fig, u, ln, pg)) ∨ (inN p0 32 = false ∧ MR k ad g1 1 uns play rd n lat gar T (came, mis, lost, bel, fig, u, ln, pg))) ∧ ∀ i, (i < 50 ∨ 56 ≤ i) → g1 i = g i) (mB k ad N) (mA ad N z9)) (cc := cX4_character) (maxL := 3) (ret := (some .int)) (by decide) rfl (Nat.le_of_ble_eq_true rfl) ?_
  intro p e s m below meth c hx hb hr hts hown hlocks hml hin hE hI ls hl
  have hl : lv_has ls 3 [(0, .ref (ad 50)), (1, .int p0), (2, .int (bI b0))] := hl
  have h50 : g 50 = .inr (4, [.int (nI th), .int (bI fig), .int (bI uns), .int (nI play), .int (nI u), .ref (ad 51), .ref (ad 52), .ref (ad 53), .ref (ad 54), .ref (ad 55), .int (nI n), .int (nI rd), .int (nI came), .int mis, .int lost, .int bel]) := hM0.1
  have h51 : g 51 = .inl (k.2.1.1, 20, .inl (fun j => nI (ln j))) := hM0.2.1
  have h52 : g 52 = .inl (k.2.1.1, 800, .inl (fun j => nI (pg j))) := hM0.2.2.1
  have h53 : g 53 = .inl (k.2.1.1, 16, .inl lat) := hM0.2.2.2.1
  have h54 : g 54 = .inl (k.2.1.1, 16, .inl (fun j => nI (gar j))) := hM0.2.2.2.2.1
  have h55 : g 55 = .inl (k.2.1.1, 120, .inl (fun j => nI (T j))) := hM0.2.2.2.2.2
  obtain ⟨hplay, hrd, hn, hgar, hT, hlat⟩ := id hW
  have hu0 : 0 < u := hwf.1
  have hu : u ≤ 20 := hwf.2.1
  have hln : ∀ j, j < 20 → ln j ≤ 40 := hwf.2.2
  refine lv_aload_n hx hb dX4_character_0 rfl (lv_at hl 0 rfl) ?_
  refine lv_iconst (v := nI 0) hx hb dX4_character_1 (by decide) ?_
  refine m_put (ci := 4) (C := RX4) (T := TX4) (N' := 16) (ty := .int) hx hb hts (by decide +kernel) tyX4 tyX4_ok nmX4 hown hE hI 50 (by omega) h50 rfl 0 (by decide) (hts (.fieldLink RX4 29 "TapePrinterModel" "thrown" "I") (by decide +kernel)) rfl (by decide +kernel) rfl rfl (Nat.le_of_ble_eq_true rfl) dX4_character_2 (fun H locs hI => ?_)
  obtain ⟨g1, hg1⟩ : ∃ zz, zz = va_up g 50 (.inr (4, [.int (nI 0), .int (bI fig), .int (bI uns), .int (nI play), .int (nI u), .ref (ad 51), .ref (ad 52), .ref (ad 53), .ref (ad 54), .ref (ad 55), .int (nI n), .int (nI rd), .int (nI came), .int mis, .int lost, .int bel])) := ⟨_, rfl⟩
  replace hI : mI k ad N g1 (mA ad N s.heap.size) s H locs := by rw [hg1]; exact hI
  have m_1 : g1 50 = .inr (4, [.int (nI 0), .int (bI fig), .int (bI uns), .int (nI play), .int (nI u), .ref (ad 51), .ref (ad 52), .ref (ad 53), .ref (ad 54), .ref (ad 55), .int (nI n), .int (nI rd), .int (nI came), .int mis, .int lost, .int bel]) := by rw [hg1, va_up_self]
  have m_2 : g1 51 = .inl (k.2.1.1, 20, .inl (fun j => nI (ln j))) := by rw [hg1, va_up_ne _ _ (by omega)]; exact h51
  have m_3 : g1 52 = .inl (k.2.1.1, 800, .inl (fun j => nI (pg j))) := by rw [hg1, va_up_ne _ _ (by omega)]; exact h52
  have m_4 : g1 53 = .inl (k.2.1.1, 16, .inl lat) := by rw [hg1, va_up_ne _ _ (by omega)]; exact h53
  have m_5 : g1 54 = .inl (k.2.1.1, 16, .inl (fun j => nI (gar j))) := by rw [hg1, va_up_ne _ _ (by omega)]; exact h54
  have m_6 : g1 55 = .inl (k.2.1.1, 120, .inl (fun j => nI (T j))) := by rw [hg1, va_up_ne _ _ (by omega)]; exact h55
  refine lv_iload_n hx hb dX4_character_5 rfl (lv_at hl 1 rfl) ?_
  refine m_callSi (As := [.int p0]) (rest := []) ⟨hx, hb, hml, hown, hts⟩ hE hI (c_X4_isCode k l ad N g1 _ p0 ) (va_cwS 1 hts gX4_character_X4_isCode rfl rfl rfl (by decide +kernel) ⟨Nat.le_of_ble_eq_true rfl, Nat.le_of_ble_eq_true rfl⟩) rfl hl.1 rfl (Nat.le_of_ble_eq_true rfl) dX4_character_6 ⟨Nat.le_of_ble_eq_true rfl, Nat.le_of_ble_eq_true rfl⟩ (m_deti (fun H locs hI => ?_))
  refine m_zeqB (tgt := 20) hx hb dX4_character_9 (by decide) (fun c_9 => ?_) (fun c_9 => ?_)
  · refine lv_aload_n hx hb dX4_character_20 rfl (lv_at hl 0 rfl) ?_
    refine lv_iconst (v := nI 1) hx hb dX4_character_21 (by decide) ?_
    refine m_callVi (As := [.int (nI 1)]) (rest := []) ⟨hx, hb, hml, hown, hts⟩ hE hI (c_X4_fail k l ad N g1 _ 0 uns play rd n lat gar T came mis lost bel fig u ln pg 1 (by omega) hW hwf (by omega) ⟨m_1, m_2, m_3, m_4, m_5, m_6⟩ ) (cwV 1 hts gX4_character_X4_fail rfl rfl rfl (by decide +kernel) ⟨Nat.le_of_ble_eq_true rfl, Nat.le_of_ble_eq_true rfl⟩) (i := 50) (by omega) m_1 rfl rfl hl.1 rfl (Nat.le_of_ble_eq_true rfl) dX4_character_22 ⟨Nat.le_of_ble_eq_true rfl, Nat.le_of_ble_eq_true rfl⟩ (m_deti (fun H locs hI => ?_))
    obtain ⟨g2, hg2⟩ : ∃ zz, zz = va_up g1 50 (.inr (4, [.int (nI 1), .int (bI fig), .int (bI uns), .int (nI play), .int (nI u), .ref (ad 51), .ref (ad 52), .ref (ad 53), .ref (ad 54), .ref (ad 55), .int (nI n), .int (nI rd), .int (nI came), .int mis, .int lost, .int bel])) := ⟨_, rfl⟩
    replace hI : mI k ad N g2 (mA ad N s.heap.size) s H locs := by rw [hg2]; exact hI
    have m_7 : g2 50 = .inr (4, [.int (nI 1), .int (bI fig), .int (bI uns), .int (nI play), .int (nI u), .ref (ad 51), .ref (ad 52), .ref (ad 53), .ref (ad 54), .ref (ad 55), .int (nI n), .int (nI rd), .int (nI came), .int mis, .int lost, .int bel]) := by rw [hg2, va_up_self]
    have m_8 : g2 51 = .inl (k.2.1.1, 20, .inl (fun j => nI (ln j))) := by rw [hg2, va_up_ne _ _ (by omega)]; exact m_2
    have m_9 : g2 52 = .inl (k.2.1.1, 800, .inl (fun j => nI (pg j))) := by rw [hg2, va_up_ne _ _ (by omega)]; exact m_3
    have m_10 : g2 53 = .inl (k.2.1.1, 16, .inl lat) := by rw [hg2, va_up_ne _ _ (by omega)]; exact m_4
    have m_11 : g2 54 = .inl (k.2.1.1, 16, .inl (fun j => nI (gar j))) := by rw [hg2, va_up_ne _ _ (by omega)]; exact m_5
    have m_12 : g2 55 = .inl (k.2.1.1, 120, .inl (fun j => nI (T j))) := by rw [hg2, va_up_ne _ _ (by omega)]; exact m_6
    exact m_iret hx hb hr hlocks hI (⟨Or.inr (⟨c_9, ⟨m_7, m_8, m_9, m_10, m_11, m_12⟩⟩), fun i hi => by rw [hg2, va_up_ne _ _ (by omega), hg1, va_up_ne _ _ (by omega)]⟩) dX4_character_25
  · obtain ⟨j, hj, rfl⟩ := inN_ex c_9 (by omega)
    have htnj := tn_nI (j := j) (by omega)
    have hl : lv_has ls 3 [(0, .ref (ad 50)), (1, .int (nI j)), (2, .int (bI b0))] := hl
    refine lv_iload_n hx hb dX4_character_12 rfl (lv_at hl 1 rfl) ?_
    refine lv_iload_n hx hb dX4_character_13 rfl (lv_at hl 2 rfl) ?_
    refine m_callSi (As := [.int (nI j), .int (bI b0)]) (rest := []) ⟨hx, hb, hml, hown, hts⟩ hE hI (c_X4_characterOf k l ad N g1 _ j b0 (by omega)) (va_cwS 2 hts gX4_character_X4_characterOf rfl rfl rfl (by decide +kernel) ⟨Nat.le_of_ble_eq_true rfl, Nat.le_of_ble_eq_true rfl⟩) rfl hl.1 rfl (Nat.le_of_ble_eq_true rfl) dX4_character_14 ⟨Nat.le_of_ble_eq_true rfl, Nat.le_of_ble_eq_true rfl⟩ (m_deti (fun H locs hI => ?_))
    refine lv_goto (tgt := 25) hx hb dX4_character_17 (by decide) ?_
    exact m_iret hx hb hr hlocks hI (⟨Or.inl (⟨c_9, by rw [htnj], ⟨m_1, m_2, m_3, m_4, m_5, m_6⟩⟩), fun i hi => by rw [hg1, va_up_ne _ _ (by omega)]⟩) dX4_character_25
set_option maxHeartbeats 8000000 in
set_option maxRecDepth 100000 in
theorem c_X4_apart (k : mC) (l : Launch) (ad : Nat → Nat) (N : Nat) (g : Nat → va_E) (sz : Nat) (th : Nat) (uns : Bool) (play rd n : Nat) (lat : Nat → Int32) (gar T : Nat → Nat) (came : Nat) (mis lost bel : Int32) (fig : Bool) (u : Nat) (ln pg : Nat → Nat) (p0 p1 : Int32) (hN : 56 ≤ N) (hW : CW play rd n lat gar T) (hwf : mWf (u, ln, pg)) (hcame : came < 2000000000) (hM0 : MR k ad g th uns play rd n lat gar T (came, mis, lost, bel, fig, u, ln, pg))  : mCi k l yX4_apart wsX4_apart { frames := 2, cells := 0, slots := 0, locals := 42 } ad N g sz [.ref (ad 50), .int p0, .int p1] (fun r1 g1 => (((inC p0 && inC p1) = true ∧ r1 = nI (pc5 (cd (tn p0) ^^^ cd (tn p1))) ∧ MR k ad g1 0 uns play rd n lat gar T (came, mis, lost, bel, fig, u, ln, pg)) ∨ ((inC p0 && inC p1) = false ∧ MR k ad g1 1 uns play rd n lat gar T (came, mis, lost, bel, fig, u, ln, pg))) ∧ ∀ i, (i < 50 ∨ 56 ≤ i) → g1 i = g i) := by
  refine mOf (Qc := fun z9 => va_Qi (fun r1 g1 => (((inC p0 && inC p1) = true ∧ r1 = nI (pc5 (cd (tn p0) ^^^ cd (tn p1))) ∧ MR k ad g1 0 uns play rd n lat gar T (came, mis, lost, bel, fig, u, ln, pg)) ∨ ((inC p0 && inC p1) = false ∧ MR k ad g1 1 uns play rd n lat gar T (came, mis, lost, bel, fig, u, ln, pg))) ∧ ∀ i, (i < 50 ∨ 56 ≤ i) → g1 i = g i) (mB k ad N) (mA ad N z9)) (cc := cX4_apart) (maxL := 3) (ret := (some .int)) (by decide) rfl (Nat.le_of_ble_eq_true rfl) ?_
  intro p e s m below meth c hx hb hr hts hown hlocks hml hin hE hI ls hl
  have hl : lv_has ls 3 [(0, .ref (ad 50)), (1, .int p0), (2, .int p1)] := hl
  have h50 : g 50 = .inr (4, [.int (nI th), .int (bI fig), .int (bI uns), .int (nI play), .int (nI u), .ref (ad 51), .ref (ad 52), .ref (ad 53), .ref (ad 54), .ref (ad 55), .int (nI n), .int (nI rd), .int (nI came), .int mis, .int lost, .int bel]) := hM0.1
  have h51 : g 51 = .inl (k.2.1.1, 20, .inl (fun j => nI (ln j))) := hM0.2.1
  have h52 : g 52 = .inl (k.2.1.1, 800, .inl (fun j => nI (pg j))) := hM0.2.2.1
  have h53 : g 53 = .inl (k.2.1.1, 16, .inl lat) := hM0.2.2.2.1
  have h54 : g 54 = .inl (k.2.1.1, 16, .inl (fun j => nI (gar j))) := hM0.2.2.2.2.1
  have h55 : g 55 = .inl (k.2.1.1, 120, .inl (fun j => nI (T j))) := hM0.2.2.2.2.2
  obtain ⟨hplay, hrd, hn, hgar, hT, hlat⟩ := id hW
  have hu0 : 0 < u := hwf.1
  have hu : u ≤ 20 := hwf.2.1
  have hln : ∀ j, j < 20 → ln j ≤ 40 := hwf.2.2
  refine lv_aload_n hx hb dX4_apart_0 rfl (lv_at hl 0 rfl) ?_
  refine lv_iconst (v := nI 0) hx hb dX4_apart_1 (by decide) ?_
  refine m_put (ci := 4) (C := RX4) (T := TX4) (N' := 16) (ty := .int) hx hb hts (by decide +kernel) tyX4 tyX4_ok nmX4 hown hE hI 50 (by omega) h50 rfl 0 (by decide) (hts (.fieldLink RX4 29 "TapePrinterModel" "thrown" "I") (by decide +kernel)) rfl (by decide +kernel) rfl rfl (Nat.le_of_ble_eq_true rfl) dX4_apart_2 (fun H locs hI => ?_)
  obtain ⟨g1, hg1⟩ : ∃ zz, zz = va_up g 50 (.inr (4, [.int (nI 0), .int (bI fig), .int (bI uns), .int (nI play), .int (nI u), .ref (ad 51), .ref (ad 52), .ref (ad 53), .ref (ad 54), .ref (ad 55), .int (nI n), .int (nI rd), .int (nI came), .int mis, .int lost, .int bel])) := ⟨_, rfl⟩
  replace hI : mI k ad N g1 (mA ad N s.heap.size) s H locs := by rw [hg1]; exact hI
  have m_1 : g1 50 = .inr (4, [.int (nI 0), .int (bI fig), .int (bI uns), .int (nI play), .int (nI u), .ref (ad 51), .ref (ad 52), .ref (ad 53), .ref (ad 54), .ref (ad 55), .int (nI n), .int (nI rd), .int (nI came), .int mis, .int lost, .int bel]) := by rw [hg1, va_up_self]
  have m_2 : g1 51 = .inl (k.2.1.1, 20, .inl (fun j => nI (ln j))) := by rw [hg1, va_up_ne _ _ (by omega)]; exact h51
  have m_3 : g1 52 = .inl (k.2.1.1, 800, .inl (fun j => nI (pg j))) := by rw [hg1, va_up_ne _ _ (by omega)]; exact h52
  have m_4 : g1 53 = .inl (k.2.1.1, 16, .inl lat) := by rw [hg1, va_up_ne _ _ (by omega)]; exact h53
  have m_5 : g1 54 = .inl (k.2.1.1, 16, .inl (fun j => nI (gar j))) := by rw [hg1, va_up_ne _ _ (by omega)]; exact h54
  have m_6 : g1 55 = .inl (k.2.1.1, 120, .inl (fun j => nI (T j))) := by rw [hg1, va_up_ne _ _ (by omega)]; exact h55
  refine lv_iload_n hx hb dX4_apart_5 rfl (lv_at hl 1 rfl) ?_
  refine m_callSi (As := [.int p0]) (rest := []) ⟨hx, hb, hml, hown, hts⟩ hE hI (c_X4_isCharacter k l ad N g1 _ p0 ) (va_cwS 1 hts gX4_apart_X4_isCharacter rfl rfl rfl (by decide +kernel) ⟨Nat.le_of_ble_eq_true rfl, Nat.le_of_ble_eq_true rfl⟩) rfl hl.1 rfl (Nat.le_of_ble_eq_true rfl) dX4_apart_6 ⟨Nat.le_of_ble_eq_true rfl, Nat.le_of_ble_eq_true rfl⟩ (m_deti (fun H locs hI => ?_))
  refine m_zeqB (tgt := 34) hx hb dX4_apart_9 (by decide) (fun c_9 => ?_) (fun c_9 => ?_)
  · refine lv_aload_n hx hb dX4_apart_34 rfl (lv_at hl 0 rfl) ?_
    refine lv_iconst (v := nI 1) hx hb dX4_apart_35 (by decide) ?_
    refine m_callVi (As := [.int (nI 1)]) (rest := []) ⟨hx, hb, hml, hown, hts⟩ hE hI (c_X4_fail k l ad N g1 _ 0 uns play rd n lat gar T came mis lost bel fig u ln pg 1 (by omega) hW hwf (by omega) ⟨m_1, m_2, m_3, m_4, m_5, m_6⟩ ) (cwV 1 hts gX4_apart_X4_fail rfl rfl rfl (by decide +kernel) ⟨Nat.le_of_ble_eq_true rfl, Nat.le_of_ble_eq_true rfl⟩) (i := 50) (by omega) m_1 rfl rfl hl.1 rfl (Nat.le_of_ble_eq_true rfl) dX4_apart_36 ⟨Nat.le_of_ble_eq_true rfl, Nat.le_of_ble_eq_true rfl⟩ (m_deti (fun H locs hI => ?_))
    obtain ⟨g2, hg2⟩ : ∃ zz, zz = va_up g1 50 (.inr (4, [.int (nI 1), .int (bI fig), .int (bI uns), .int (nI play), .int (nI u), .ref (ad 51), .ref (ad 52), .ref (ad 53), .ref (ad 54), .ref (ad 55), .int (nI n), .int (nI rd), .int (nI came), .int mis, .int lost, .int bel])) := ⟨_, rfl⟩
    replace hI : mI k ad N g2 (mA ad N s.heap.size) s H locs := by rw [hg2]; exact hI
    have m_7 : g2 50 = .inr (4, [.int (nI 1), .int (bI fig), .int (bI uns), .int (nI play), .int (nI u), .ref (ad 51), .ref (ad 52), .ref (ad 53), .ref (ad 54), .ref (ad 55), .int (nI n), .int (nI rd), .int (nI came), .int mis, .int lost, .int bel]) := by rw [hg2, va_up_self]
    have m_8 : g2 51 = .inl (k.2.1.1, 20, .inl (fun j => nI (ln j))) := by rw [hg2, va_up_ne _ _ (by omega)]; exact m_2
    have m_9 : g2 52 = .inl (k.2.1.1, 800, .inl (fun j => nI (pg j))) := by rw [hg2, va_up_ne _ _ (by omega)]; exact m_3
    have m_10 : g2 53 = .inl (k.2.1.1, 16, .inl lat) := by rw [hg2, va_up_ne _ _ (by omega)]; exact m_4
    have m_11 : g2 54 = .inl (k.2.1.1, 16, .inl (fun j => nI (gar j))) := by rw [hg2, va_up_ne _ _ (by omega)]; exact m_5
    have m_12 : g2 55 = .inl (k.2.1.1, 120, .inl (fun j => nI (T j))) := by rw [hg2, va_up_ne _ _ (by omega)]; exact m_6
    exact m_iret hx hb hr hlocks hI (⟨Or.inr (⟨by rw [c_9] <;> rfl, ⟨m_7, m_8, m_9, m_10, m_11, m_12⟩⟩), fun i hi => by rw [hg2, va_up_ne _ _ (by omega), hg1, va_up_ne _ _ (by omega)]⟩) dX4_apart_39
  · refine lv_iload_n hx hb dX4_apart_12 rfl (lv_at hl 2 rfl) ?_
    refine m_callSi (As := [.int p1]) (rest := []) ⟨hx, hb, hml, hown, hts⟩ hE hI (c_X4_isCharacter k l ad N g1 _ p1 ) (va_cwS 1 hts gX4_apart_X4_isCharacter rfl rfl rfl (by decide +kernel) ⟨Nat.le_of_ble_eq_true rfl, Nat.le_of_ble_eq_true rfl⟩) rfl hl.1 rfl (Nat.le_of_ble_eq_true rfl) dX4_apart_13 ⟨Nat.le_of_ble_eq_true rfl, Nat.le_of_ble_eq_true rfl⟩ (m_deti (fun H locs hI => ?_))
    refine m_zeqB (tgt := 34) hx hb dX4_apart_16 (by decide) (fun c_16 => ?_) (fun c_16 => ?_)
    · refine lv_aload_n hx hb dX4_apart_34 rfl (lv_at hl 0 rfl) ?_
      refine lv_iconst (v := nI 1) hx hb dX4_apart_35 (by decide) ?_
      refine m_callVi (As := [.int (nI 1)]) (rest := []) ⟨hx, hb, hml, hown, hts⟩ hE hI (c_X4_fail k l ad N g1 _ 0 uns play rd n lat gar T came mis lost bel fig u ln pg 1 (by omega) hW hwf (by omega) ⟨m_1, m_2, m_3, m_4, m_5, m_6⟩ ) (cwV 1 hts gX4_apart_X4_fail rfl rfl rfl (by decide +kernel) ⟨Nat.le_of_ble_eq_true rfl, Nat.le_of_ble_eq_true rfl⟩) (i := 50) (by omega) m_1 rfl rfl hl.1 rfl (Nat.le_of_ble_eq_true rfl) dX4_apart_36 ⟨Nat.le_of_ble_eq_true rfl, Nat.le_of_ble_eq_true rfl⟩ (m_deti (fun H locs hI => ?_))
      obtain ⟨g3, hg3⟩ : ∃ zz, zz = va_up g1 50 (.inr (4, [.int (nI 1), .int (bI fig), .int (bI uns), .int (nI play), .int (nI u), .ref (ad 51), .ref (ad 52), .ref (ad 53), .ref (ad 54), .ref (ad 55), .int (nI n), .int (nI rd), .int (nI came), .int mis, .int lost, .int bel])) := ⟨_, rfl⟩
      replace hI : mI k ad N g3 (mA ad N s.heap.size) s H locs := by rw [hg3]; exact hI
      have m_13 : g3 50 = .inr (4, [.int (nI 1), .int (bI fig), .int (bI uns), .int (nI play), .int (nI u), .ref (ad 51), .ref (ad 52), .ref (ad 53), .ref (ad 54), .ref (ad 55), .int (nI n), .int (nI rd), .int (nI came), .int mis, .int lost, .int bel]) := by rw [hg3, va_up_self]
      have m_14 : g3 51 = .inl (k.2.1.1, 20, .inl (fun j => nI (ln j))) := by rw [hg3, va_up_ne _ _ (by omega)]; exact m_2
      have m_15 : g3 52 = .inl (k.2.1.1, 800, .inl (fun j => nI (pg j))) := by rw [hg3, va_up_ne _ _ (by omega)]; exact m_3
      have m_16 : g3 53 = .inl (k.2.1.1, 16, .inl lat) := by rw [hg3, va_up_ne _ _ (by omega)]; exact m_4
      have m_17 : g3 54 = .inl (k.2.1.1, 16, .inl (fun j => nI (gar j))) := by rw [hg3, va_up_ne _ _ (by omega)]; exact m_5
      have m_18 : g3 55 = .inl (k.2.1.1, 120, .inl (fun j => nI (T j))) := by rw [hg3, va_up_ne _ _ (by omega)]; exact m_6
      exact m_iret hx hb hr hlocks hI (⟨Or.inr (⟨by rw [c_9, c_16] <;> rfl, ⟨m_13, m_14, m_15, m_16, m_17, m_18⟩⟩), fun i hi => by rw [hg3, va_up_ne _ _ (by omega), hg1, va_up_ne _ _ (by omega)]⟩) dX4_apart_39
    · obtain ⟨j, h1j, hj, rfl⟩ := inC_ex c_9
      have hicj : inC (nI j) = true := c_9
      have htnj := tn_nI (j := j) (by omega)
      have hl : lv_has ls 3 [(0, .ref (ad 50)), (1, .int (nI j)), (2, .int p1)] := hl
      obtain ⟨i, h1i, hi, rfl⟩ := inC_ex c_16
      have hici : inC (nI i) = true := c_16
      have htni := tn_nI (j := i) (by omega)
      have hl : lv_has ls 3 [(0, .ref (ad 50)), (1, .int (nI j)), (2, .int (nI i))] := hl
      refine lv_iload_n hx hb dX4_apart_19 rfl (lv_at hl 1 rfl) ?_
      refine m_callSi (As := [.int (nI j)]) (rest := []) ⟨hx, hb, hml, hown, hts⟩ hE hI (c_X4_codeOf k l ad N g1 _ j (by omega) (by omega)) (va_cwS 1 hts gX4_apart_X4_codeOf rfl rfl rfl (by decide +kernel) ⟨Nat.le_of_ble_eq_true rfl, Nat.le_of_ble_eq_true rfl⟩) rfl hl.1 rfl (Nat.le_of_ble_eq_true rfl) dX4_apart_20 ⟨Nat.le_of_ble_eq_true rfl, Nat.le_of_ble_eq_true rfl⟩ (m_deti (fun H locs hI => ?_))
      refine lv_iload_n hx hb dX4_apart_23 rfl (lv_at hl 2 rfl) ?_
      refine m_callSi (As := [.int (nI i)]) (rest := [.int (nI (cd j))]) ⟨hx, hb, hml, hown, hts⟩ hE hI (c_X4_codeOf k l ad N g1 _ i (by omega) (by omega)) (va_cwS 1 hts gX4_apart_X4_codeOf rfl rfl rfl (by decide +kernel) ⟨Nat.le_of_ble_eq_true rfl, Nat.le_of_ble_eq_true rfl⟩) rfl hl.1 rfl (Nat.le_of_ble_eq_true rfl) dX4_apart_24 ⟨Nat.le_of_ble_eq_true rfl, Nat.le_of_ble_eq_true rfl⟩ (m_deti (fun H locs hI => ?_))
      refine lv_ixor hx hb dX4_apart_27 ?_
      have hxo := xor32b _ (cd_lt j (by omega)) _ (cd_lt i (by omega))
      refine m_top (show (nI (cd j)) ^^^ (nI (cd i)) = nI (cd j ^^^ cd i) from hxo.1) ?_
      have hxo2 := hxo.2
      refine m_callSi (As := [.int (nI (cd j ^^^ cd i))]) (rest := []) ⟨hx, hb, hml, hown, hts⟩ hE hI (c_X4_size k l ad N g1 _ (cd j ^^^ cd i) (by omega)) (va_cwS 1 hts gX4_apart_X4_size rfl rfl rfl (by decide +kernel) ⟨Nat.le_of_ble_eq_true rfl, Nat.le_of_ble_eq_true rfl⟩) rfl hl.1 rfl (Nat.le_of_ble_eq_true rfl) dX4_apart_28 ⟨Nat.le_of_ble_eq_true rfl, Nat.le_of_ble_eq_true rfl⟩ (m_deti (fun H locs hI => ?_))
      refine lv_goto (tgt := 39) hx hb dX4_apart_31 (by decide) ?_
      exact m_iret hx hb hr hlocks hI (⟨Or.inl (⟨by rw [hicj, hici] <;> rfl, by rw [htnj, htni], ⟨m_1, m_2, m_3, m_4, m_5, m_6⟩⟩), fun i hi => by rw [hg1, va_up_ne _ _ (by omega)]⟩) dX4_apart_39
set_option maxHeartbeats 8000000 in
set_option maxRecDepth 100000 in
theorem c_X4_doubts (k : mC) (l : Launch) (ad : Nat → Nat) (N : Nat) (g : Nat → va_E) (sz : Nat) (th : Nat) (uns : Bool) (play rd n : Nat) (lat : Nat → Int32) (gar T : Nat → Nat) (came : Nat) (mis lost bel : Int32) (fig : Bool) (u : Nat) (ln pg : Nat → Nat) (p0 : Int32) (hN : 56 ≤ N) (hW : CW play rd n lat gar T) (hwf : mWf (u, ln, pg)) (hcame : came < 2000000000) (hM0 : MR k ad g th uns play rd n lat gar T (came, mis, lost, bel, fig, u, ln, pg))  : mCi k l yX4_doubts wsX4_doubts { frames := 2, cells := 0, slots := 0, locals := 43 } ad N g sz [.ref (ad 50), .int p0] (fun r1 g1 => ((inN p0 32 = true ∧ r1 = nI (dbt (tn p0) fig 5) ∧ MR k ad g1 0 uns play rd n lat gar T (came, mis, lost, bel, fig, u, ln, pg)) ∨ (inN p0 32 = false ∧ MR k ad g1 1 uns play rd n lat gar T (came, mis, lost, bel, fig, u, ln, pg))) ∧ ∀ i, (i < 50 ∨ 56 ≤ i) → g1 i = g i) := by
  refine mOf (Qc := fun z9 => va_Qi (fun r1 g1 => ((inN p0 32 = true ∧ r1 = nI (dbt (tn p0) fig 5) ∧ MR k ad g1 0 uns play rd n lat gar T (came, mis, lost, bel, fig, u, ln, pg)) ∨ (inN p0 32 = false ∧ MR k ad g1 1 uns play rd n lat gar T (came, mis, lost, bel, fig, u, ln, pg))) ∧ ∀ i, (i < 50 ∨ 56 ≤ i) → g1 i = g i) (mB k ad N) (mA ad N z9)) (cc := cX4_doubts) (maxL := 4) (ret := (some .int)) (by decide) rfl (Nat.le_of_ble_eq_true rfl) ?_
  intro p e s m below meth c hx hb hr hts hown hlocks hml hin hE hI ls hl
  have hl : lv_has ls 4 [(0, .ref (ad 50)), (1, .int p0)] := hl
  have h50 : g 50 = .inr (4, [.int (nI th), .int (bI fig), .int (bI uns), .int (nI play), .int (nI u), .ref (ad 51), .ref (ad 52), .ref (ad 53), .ref (ad 54), .ref (ad 55), .int (nI n), .int (nI rd), .int (nI came), .int mis, .int lost, .int bel]) := hM0.1
  have h51 : g 51 = .inl (k.2.1.1, 20, .inl (fun j => nI (ln j))) := hM0.2.1
  have h52 : g 52 = .inl (k.2.1.1, 800, .inl (fun j => nI (pg j))) := hM0.2.2.1
  have h53 : g 53 = .inl (k.2.1.1, 16, .inl lat) := hM0.2.2.2.1
  have h54 : g 54 = .inl (k.2.1.1, 16, .inl (fun j => nI (gar j))) := hM0.2.2.2.2.1
  have h55 : g 55 = .inl (k.2.1.1, 120, .inl (fun j => nI (T j))) := hM0.2.2.2.2.2
  obtain ⟨hplay, hrd, hn, hgar, hT, hlat⟩ := id hW
  have hu0 : 0 < u := hwf.1
  have hu : u ≤ 20 := hwf.2.1
  have hln : ∀ j, j < 20 → ln j ≤ 40 := hwf.2.2
  refine lv_aload_n hx hb dX4_doubts_0 rfl (lv_at hl 0 rfl) ?_
  refine lv_iconst (v := nI 0) hx hb dX4_doubts_1 (by decide) ?_
  refine m_put (ci := 4) (C := RX4) (T := TX4) (N' := 16) (ty := .int) hx hb hts (by decide +kernel) tyX4 tyX4_ok nmX4 hown hE hI 50 (by omega) h50 rfl 0 (by decide) (hts (.fieldLink RX4 29 "TapePrinterModel" "thrown" "I") (by decide +kernel)) rfl (by decide +kernel) rfl rfl (Nat.le_of_ble_eq_true rfl) dX4_doubts_2 (fun H locs hI => ?_)
  obtain ⟨g1, hg1⟩ : ∃ zz, zz = va_up g 50 (.inr (4, [.int (nI 0), .int (bI fig), .int (bI uns), .int (nI play), .int (nI u), .ref (ad 51), .ref (ad 52), .ref (ad 53), .ref (ad 54), .ref (ad 55), .int (nI n), .int (nI rd), .int (nI came), .int mis, .int lost, .int bel])) := ⟨_, rfl⟩
  replace hI : mI k ad N g1 (mA ad N s.heap.size) s H locs := by rw [hg1]; exact hI
  have m_1 : g1 50 = .inr (4, [.int (nI 0), .int (bI fig), .int (bI uns), .int (nI play), .int (nI u), .ref (ad 51), .ref (ad 52), .ref (ad 53), .ref (ad 54), .ref (ad 55), .int (nI n), .int (nI rd), .int (nI came), .int mis, .int lost, .int bel]) := by rw [hg1, va_up_self]
  have m_2 : g1 51 = .inl (k.2.1.1, 20, .inl (fun j => nI (ln j))) := by rw [hg1, va_up_ne _ _ (by omega)]; exact h51
  have m_3 : g1 52 = .inl (k.2.1.1, 800, .inl (fun j => nI (pg j))) := by rw [hg1, va_up_ne _ _ (by omega)]; exact h52
  have m_4 : g1 53 = .inl (k.2.1.1, 16, .inl lat) := by rw [hg1, va_up_ne _ _ (by omega)]; exact h53
  have m_5 : g1 54 = .inl (k.2.1.1, 16, .inl (fun j => nI (gar j))) := by rw [hg1, va_up_ne _ _ (by omega)]; exact h54
  have m_6 : g1 55 = .inl (k.2.1.1, 120, .inl (fun j => nI (T j))) := by rw [hg1, va_up_ne _ _ (by omega)]; exact h55
  refine lv_iload_n hx hb dX4_doubts_5 rfl (lv_at hl 1 rfl) ?_
  refine m_callSi (As := [.int p0]) (rest := []) ⟨hx, hb, hml, hown, hts⟩ hE hI (c_X4_isCode k l ad N g1 _ p0 ) (va_cwS 1 hts gX4_doubts_X4_isCode rfl rfl rfl (by decide +kernel) ⟨Nat.le_of_ble_eq_true rfl, Nat.le_of_ble_eq_true rfl⟩) rfl hl.1 rfl (Nat.le_of_ble_eq_true rfl) dX4_doubts_6 ⟨Nat.le_of_ble_eq_true rfl, Nat.le_of_ble_eq_true rfl⟩ (m_deti (fun H locs hI => ?_))
  refine m_zneB (tgt := 18) hx hb dX4_doubts_9 (by decide) (fun c_9 => ?_) (fun c_9 => ?_)
  · obtain ⟨j, hj, rfl⟩ := inN_ex c_9 (by omega)
    have htnj := tn_nI (j := j) (by omega)
    have hl : lv_has ls 4 [(0, .ref (ad 50)), (1, .int (nI j))] := hl
    refine lv_iconst (v := nI 0) hx hb dX4_doubts_18 (by decide) ?_
    refine lv_istore_n (lv' := [(2, .int (nI 0)), (0, .ref (ad 50)), (1, .int (nI j))]) hx hb dX4_doubts_19 rfl hl (by decide) rfl (fun ls hl => ?_)
    refine lv_iconst (v := nI 0) hx hb dX4_doubts_20 (by decide) ?_
    refine lv_istore_n (lv' := [(3, .int (nI 0)), (2, .int (nI 0)), (0, .ref (ad 50)), (1, .int (nI j))]) hx hb dX4_doubts_21 rfl hl (by decide) rfl (fun ls hl => ?_)
    refine m_loop (σ := Nat) (fun i => i ≤ 5) (fun i => 5 - i) (fun i => g1) (fun i => [(0, .ref (ad 50)), (1, .int (nI j)), (2, .int (nI (dbt j fig i))), (3, .int (nI i))]) (nL := 4) 0 (Nat.zero_le _) hI (lv_sub hl [2, 3, 1, 0] rfl) ?_
    rintro i hi5 ih22 H locs ls hI hl
    have hI : mI k ad N g1 (mA ad N s.heap.size) s H locs := hI
    have hl : lv_has ls 4 [(0, .ref (ad 50)), (1, .int (nI j)), (2, .int (nI (dbt j fig i))), (3, .int (nI i))] := hl
    have hdb := dbt_le j fig i
    refine lv_iload_n hx hb dX4_doubts_22 rfl (lv_at hl 3 rfl) ?_
    refine lv_iconst (v := nI 5) hx hb dX4_doubts_23 (by decide) ?_
    refine m_cgeN (tgt := 64) hx hb (by omega) (by omega) dX4_doubts_24 (by decide) (fun c_24 => ?_) (fun c_24 => ?_)
    · refine lv_iload_n hx hb dX4_doubts_64 rfl (lv_at hl 2 rfl) ?_
      exact m_iret hx hb hr hlocks hI (⟨Or.inl (⟨c_9, by rw [htnj, show i = 5 by omega], ⟨m_1, m_2, m_3, m_4, m_5, m_6⟩⟩), fun i hi => by rw [hg1, va_up_ne _ _ (by omega)]⟩) dX4_doubts_65
    · refine lv_iload_n hx hb dX4_doubts_27 rfl (lv_at hl 2 rfl) ?_
      refine lv_iload_n hx hb dX4_doubts_28 rfl (lv_at hl 1 rfl) ?_
      refine lv_iconst (v := nI 1) hx hb dX4_doubts_29 (by decide) ?_
      refine lv_iload_n hx hb dX4_doubts_30 rfl (lv_at hl 3 rfl) ?_
      refine lv_ishl hx hb dX4_doubts_31 ?_
      refine lv_ixor hx hb dX4_doubts_32 ?_
      have hbt := bit32 j hj i (by omega)
      refine m_top (show (nI j) ^^^ ((nI 1) <<< ((nI i) &&& 31)) = nI (j ^^^ 2 ^ i) from hbt.1) ?_
      have hbt2 := hbt.2
      have hc2 := chF_le _ hbt2 fig
      have hc1 := chF_le j hj fig
      refine lv_aload_n hx hb dX4_doubts_33 rfl (lv_at hl 0 rfl) ?_
      refine m_get (ci := 4) (C := RX4) (T := TX4) (N' := 16) hx hb hts (by decide +kernel) hown hE hI 50 (by omega) m_1 rfl 1 (by decide) (hts (.fieldLink RX4 60 "TapePrinterModel" "isFigures" "Z") (by decide +kernel)) rfl dX4_doubts_34 ?_
      refine m_callSi (As := [.int (nI (j ^^^ 2 ^ i)), .int (bI fig)]) (rest := [.int (nI (dbt j fig i))]) ⟨hx, hb, hml, hown, hts⟩ hE hI (c_X4_characterOf k l ad N g1 _ (j ^^^ 2 ^ i) fig (by omega)) (va_cwS 2 hts gX4_doubts_X4_characterOf rfl rfl rfl (by decide +kernel) ⟨Nat.le_of_ble_eq_true rfl, Nat.le_of_ble_eq_true rfl⟩) rfl hl.1 rfl (Nat.le_of_ble_eq_true rfl) dX4_doubts_37 ⟨Nat.le_of_ble_eq_true rfl, Nat.le_of_ble_eq_true rfl⟩ (m_deti (fun H locs hI => ?_))
      refine lv_iload_n hx hb dX4_doubts_40 rfl (lv_at hl 1 rfl) ?_
      refine lv_aload_n hx hb dX4_doubts_41 rfl (lv_at hl 0 rfl) ?_
      refine m_get (ci := 4) (C := RX4) (T := TX4) (N' := 16) hx hb hts (by decide +kernel) hown hE hI 50 (by omega) m_1 rfl 1 (by decide) (hts (.fieldLink RX4 60 "TapePrinterModel" "isFigures" "Z") (by decide +kernel)) rfl dX4_doubts_42 ?_
      refine m_callSi (As := [.int (nI j), .int (bI fig)]) (rest := [.int (nI (chF (j ^^^ 2 ^ i) fig)), .int (nI (dbt j fig i))]) ⟨hx, hb, hml, hown, hts⟩ hE hI (c_X4_characterOf k l ad N g1 _ j fig (by omega)) (va_cwS 2 hts gX4_doubts_X4_characterOf rfl rfl rfl (by decide +kernel) ⟨Nat.le_of_ble_eq_true rfl, Nat.le_of_ble_eq_true rfl⟩) rfl hl.1 rfl (Nat.le_of_ble_eq_true rfl) dX4_doubts_45 ⟨Nat.le_of_ble_eq_true rfl, Nat.le_of_ble_eq_true rfl⟩ (m_deti (fun H locs hI => ?_))
      refine m_ceqN (tgt := 55) hx hb (by omega) (by omega) dX4_doubts_48 (by decide) (fun c_48 => ?_) (fun c_48 => ?_)
      · refine lv_iconst (v := nI 0) hx hb dX4_doubts_55 (by decide) ?_
        refine m_iaddN hx hb dX4_doubts_56 ?_
        refine lv_istore_n (lv' := [(2, .int (nI ((dbt j fig i) + 0))), (0, .ref (ad 50)), (1, .int (nI j)), (3, .int (nI i))]) hx hb dX4_doubts_57 rfl hl (by decide) rfl (fun ls hl => ?_)
        have hdn : dbt j fig (i + 1) = dbt j fig i := by show (if chF (j ^^^ 2 ^ i) fig = chF j fig then dbt j fig i else dbt j fig i + 1) = _; rw [if_pos c_48]
        have hl : lv_has ls 4 [(2, .int (nI (dbt j fig (i + 1)))), (0, .ref (ad 50)), (1, .int (nI j)), (3, .int (nI i))] := by rw [hdn]; exact hl
        refine lv_iinc (v := nI (i + 1)) (lv' := [(3, .int (nI (i + 1))), (2, .int (nI (dbt j fig (i + 1)))), (0, .ref (ad 50)), (1, .int (nI j))]) hx hb dX4_doubts_58 hl (k := 3) rfl (nI_add i 1) (by decide) rfl (fun ls hl => ?_)
        refine lv_goto (tgt := 22) hx hb dX4_doubts_61 (by decide) ?_
        exact ih22 (i + 1) (show i + 1 ≤ 5 by omega) (show 5 - (i + 1) < 5 - i by omega) _ _ _ hI (lv_sub hl [2, 3, 1, 0] rfl)
      · refine lv_iconst (v := nI 1) hx hb dX4_doubts_51 (by decide) ?_
        refine lv_goto (tgt := 56) hx hb dX4_doubts_52 (by decide) ?_
        refine m_iaddN hx hb dX4_doubts_56 ?_
        refine lv_istore_n (lv' := [(2, .int (nI ((dbt j fig i) + 1))), (0, .ref (ad 50)), (1, .int (nI j)), (3, .int (nI i))]) hx hb dX4_doubts_57 rfl hl (by decide) rfl (fun ls hl => ?_)
        have hdn : dbt j fig (i + 1) = dbt j fig i + 1 := by show (if chF (j ^^^ 2 ^ i) fig = chF j fig then dbt j fig i else dbt j fig i + 1) = _; rw [if_neg c_48]
        have hl : lv_has ls 4 [(2, .int (nI (dbt j fig (i + 1)))), (0, .ref (ad 50)), (1, .int (nI j)), (3, .int (nI i))] := by rw [hdn]; exact hl
        refine lv_iinc (v := nI (i + 1)) (lv' := [(3, .int (nI (i + 1))), (2, .int (nI (dbt j fig (i + 1)))), (0, .ref (ad 50)), (1, .int (nI j))]) hx hb dX4_doubts_58 hl (k := 3) rfl (nI_add i 1) (by decide) rfl (fun ls hl => ?_)
        refine lv_goto (tgt := 22) hx hb dX4_doubts_61 (by decide) ?_
        exact ih22 (i + 1) (show i + 1 ≤ 5 by omega) (show 5 - (i + 1) < 5 - i by omega) _ _ _ hI (lv_sub hl [2, 3, 1, 0] rfl)
  · refine lv_aload_n hx hb dX4_doubts_12 rfl (lv_at hl 0 rfl) ?_
    refine lv_iconst (v := nI 1) hx hb dX4_doubts_13 (by decide) ?_
    refine m_callVi (As := [.int (nI 1)]) (rest := []) ⟨hx, hb, hml, hown, hts⟩ hE hI (c_X4_fail k l ad N g1 _ 0 uns play rd n lat gar T came mis lost bel fig u ln pg 1 (by omega) hW hwf (by omega) ⟨m_1, m_2, m_3, m_4, m_5, m_6⟩ ) (cwV 1 hts gX4_doubts_X4_fail rfl rfl rfl (by decide +kernel) ⟨Nat.le_of_ble_eq_true rfl, Nat.le_of_ble_eq_true rfl⟩) (i := 50) (by omega) m_1 rfl rfl hl.1 rfl (Nat.le_of_ble_eq_true rfl) dX4_doubts_14 ⟨Nat.le_of_ble_eq_true rfl, Nat.le_of_ble_eq_true rfl⟩ (m_deti (fun H locs hI => ?_))
    obtain ⟨g2, hg2⟩ : ∃ zz, zz = va_up g1 50 (.inr (4, [.int (nI 1), .int (bI fig), .int (bI uns), .int (nI play), .int (nI u), .ref (ad 51), .ref (ad 52), .ref (ad 53), .ref (ad 54), .ref (ad 55), .int (nI n), .int (nI rd), .int (nI came), .int mis, .int lost, .int bel])) := ⟨_, rfl⟩
    replace hI : mI k ad N g2 (mA ad N s.heap.size) s H locs := by rw [hg2]; exact hI
    have m_7 : g2 50 = .inr (4, [.int (nI 1), .int (bI fig), .int (bI uns), .int (nI play), .int (nI u), .ref (ad 51), .ref (ad 52), .ref (ad 53), .ref (ad 54), .ref (ad 55), .int (nI n), .int (nI rd), .int (nI came), .int mis, .int lost, .int bel]) := by rw [hg2, va_up_self]
    have m_8 : g2 51 = .inl (k.2.1.1, 20, .inl (fun j => nI (ln j))) := by rw [hg2, va_up_ne _ _ (by omega)]; exact m_2
    have m_9 : g2 52 = .inl (k.2.1.1, 800, .inl (fun j => nI (pg j))) := by rw [hg2, va_up_ne _ _ (by omega)]; exact m_3
    have m_10 : g2 53 = .inl (k.2.1.1, 16, .inl lat) := by rw [hg2, va_up_ne _ _ (by omega)]; exact m_4
    have m_11 : g2 54 = .inl (k.2.1.1, 16, .inl (fun j => nI (gar j))) := by rw [hg2, va_up_ne _ _ (by omega)]; exact m_5
    have m_12 : g2 55 = .inl (k.2.1.1, 120, .inl (fun j => nI (T j))) := by rw [hg2, va_up_ne _ _ (by omega)]; exact m_6
    exact m_iret hx hb hr hlocks hI (⟨Or.inr (⟨c_9, ⟨m_7, m_8, m_9, m_10, m_11, m_12⟩⟩), fun i hi => by rw [hg2, va_up_ne _ _ (by omega), hg1, va_up_ne _ _ (by omega)]⟩) dX4_doubts_17
set_option maxHeartbeats 8000000 in
set_option maxRecDepth 100000 in
theorem c_X4_setLine (k : mC) (l : Launch) (ad : Nat → Nat) (N : Nat) (g : Nat → va_E) (sz : Nat) (th : Nat) (uns : Bool) (play rd n : Nat) (lat : Nat → Int32) (gar T : Nat → Nat) (came : Nat) (mis lost bel : Int32) (fig : Bool) (u : Nat) (ln pg : Nat → Nat) (p0 p1 p2 : Int32) (hN : 56 ≤ N) (hW : CW play rd n lat gar T) (hwf : mWf (u, ln, pg)) (hcame : came < 2000000000) (hM0 : MR k ad g th uns play rd n lat gar T (came, mis, lost, bel, fig, u, ln, pg))  : mCi k l yX4_setLine wsX4_setLine { frames := 2, cells := 0, slots := 0, locals := 42 } ad N g sz [.ref (ad 50), .int p0, .int p1, .int p2] (fun r1 g1 => (((inN p0 16 = true ∧ (in9 p1 && inN p2 32) = true) ∧ r1 = lat (tn p0) ∧ MR k ad g1 0 uns play rd n (upd lat (tn p0) p1) (va_up gar (tn p0) (tn p2)) T (came, mis, lost, bel, fig, u, ln, pg)) ∨ (inN p0 16 = false ∧ MR k ad g1 1 uns play rd n lat gar T (came, mis, lost, bel, fig, u, ln, pg)) ∨ ((inN p0 16 = true ∧ (in9 p1 && inN p2 32) = false) ∧ MR k ad g1 2 uns play rd n lat gar T (came, mis, lost, bel, fig, u, ln, pg))) ∧ ∀ i, (i < 50 ∨ 56 ≤ i) → g1 i = g i) := by
  refine mOf (Qc := fun z9 => va_Qi (fun r1 g1 => (((inN p0 16 = true ∧ (in9 p1 && inN p2 32) = true) ∧ r1 = lat (tn p0) ∧ MR k ad g1 0 uns play rd n (upd lat (tn p0) p1) (va_up gar (tn p0) (tn p2)) T (came, mis, lost, bel, fig, u, ln, pg)) ∨ (inN p0 16 = false ∧ MR k ad g1 1 uns play rd n lat gar T (came, mis, lost, bel, fig, u, ln, pg)) ∨ ((inN p0 16 = true ∧ (in9 p1 && inN p2 32) = false) ∧ MR k ad g1 2 uns play rd n lat gar T (came, mis, lost, bel, fig, u, ln, pg))) ∧ ∀ i, (i < 50 ∨ 56 ≤ i) → g1 i = g i) (mB k ad N) (mA ad N z9)) (cc := cX4_setLine) (maxL := 5) (ret := (some .int)) (by decide) rfl (Nat.le_of_ble_eq_true rfl) ?_
  intro p e s m below meth c hx hb hr hts hown hlocks hml hin hE hI ls hl
  have hl : lv_has ls 5 [(0, .ref (ad 50)), (1, .int p0), (2, .int p1), (3, .int p2)] := hl
  have h50 : g 50 = .inr (4, [.int (nI th), .int (bI fig), .int (bI uns), .int (nI play), .int (nI u), .ref (ad 51), .ref (ad 52), .ref (ad 53), .ref (ad 54), .ref (ad 55), .int (nI n), .int (nI rd), .int (nI came), .int mis, .int lost, .int bel]) := hM0.1
  have h51 : g 51 = .inl (k.2.1.1, 20, .inl (fun j => nI (ln j))) := hM0.2.1
  have h52 : g 52 = .inl (k.2.1.1, 800, .inl (fun j => nI (pg j))) := hM0.2.2.1
  have h53 : g 53 = .inl (k.2.1.1, 16, .inl lat) := hM0.2.2.2.1
  have h54 : g 54 = .inl (k.2.1.1, 16, .inl (fun j => nI (gar j))) := hM0.2.2.2.2.1
  have h55 : g 55 = .inl (k.2.1.1, 120, .inl (fun j => nI (T j))) := hM0.2.2.2.2.2
  obtain ⟨hplay, hrd, hn, hgar, hT, hlat⟩ := id hW
  have hu0 : 0 < u := hwf.1
  have hu : u ≤ 20 := hwf.2.1
  have hln : ∀ j, j < 20 → ln j ≤ 40 := hwf.2.2
  refine lv_aload_n hx hb dX4_setLine_0 rfl (lv_at hl 0 rfl) ?_
  refine lv_iconst (v := nI 0) hx hb dX4_setLine_1 (by decide) ?_
  refine m_put (ci := 4) (C := RX4) (T := TX4) (N' := 16) (ty := .int) hx hb hts (by decide +kernel) tyX4 tyX4_ok nmX4 hown hE hI 50 (by omega) h50 rfl 0 (by decide) (hts (.fieldLink RX4 29 "TapePrinterModel" "thrown" "I") (by decide +kernel)) rfl (by decide +kernel) rfl rfl (Nat.le_of_ble_eq_true rfl) dX4_setLine_2 (fun H locs hI => ?_)
  obtain ⟨g1, hg1⟩ : ∃ zz, zz = va_up g 50 (.inr (4, [.int (nI 0), .int (bI fig), .int (bI uns), .int (nI play), .int (nI u), .ref (ad 51), .ref (ad 52), .ref (ad 53), .ref (ad 54), .ref (ad 55), .int (nI n), .int (nI rd), .int (nI came), .int mis, .int lost, .int bel])) := ⟨_, rfl⟩
  replace hI : mI k ad N g1 (mA ad N s.heap.size) s H locs := by rw [hg1]; exact hI
  have m_1 : g1 50 = .inr (4, [.int (nI 0), .int (bI fig), .int (bI uns), .int (nI play), .int (nI u), .ref (ad 51), .ref (ad 52), .ref (ad 53), .ref (ad 54), .ref (ad 55), .int (nI n), .int (nI rd), .int (nI came), .int mis, .int lost, .int bel]) := by rw [hg1, va_up_self]
  have m_2 : g1 51 = .inl (k.2.1.1, 20, .inl (fun j => nI (ln j))) := by rw [hg1, va_up_ne _ _ (by omega)]; exact h51
  have m_3 : g1 52 = .inl (k.2.1.1, 800, .inl (fun j => nI (pg j))) := by rw [hg1, va_up_ne _ _ (by omega)]; exact h52
  have m_4 : g1 53 = .inl (k.2.1.1, 16, .inl lat) := by rw [hg1, va_up_ne _ _ (by omega)]; exact h53
  have m_5 : g1 54 = .inl (k.2.1.1, 16, .inl (fun j => nI (gar j))) := by rw [hg1, va_up_ne _ _ (by omega)]; exact h54
  have m_6 : g1 55 = .inl (k.2.1.1, 120, .inl (fun j => nI (T j))) := by rw [hg1, va_up_ne _ _ (by omega)]; exact h55
  refine lv_iload_n hx hb dX4_setLine_5 rfl (lv_at hl 1 rfl) ?_
  refine lv_iconst (v := nI 0) hx hb dX4_setLine_6 (by decide) ?_
  refine lv_bipush (v := nI 15) hx hb dX4_setLine_7 (by decide) ?_
  refine m_callSi (As := [.int p0, .int (nI 0), .int (nI 15)]) (rest := []) ⟨hx, hb, hml, hown, hts⟩ hE hI (c_X4_isIn k l ad N g1 _ p0 (nI 0) (nI 15)) (va_cwS 3 hts gX4_setLine_X4_isIn rfl rfl rfl (by decide +kernel) ⟨Nat.le_of_ble_eq_true rfl, Nat.le_of_ble_eq_true rfl⟩) rfl hl.1 rfl (Nat.le_of_ble_eq_true rfl) dX4_setLine_9 ⟨Nat.le_of_ble_eq_true rfl, Nat.le_of_ble_eq_true rfl⟩ (m_deti (fun H locs hI => ?_))
  refine m_top (show bI (decide (nI 0 ≤ p0) && decide (p0 ≤ nI 15)) = bI (inN p0 16) from by rw [isIn_N (h := 15) (by omega)]) ?_
  refine m_zneB (tgt := 21) hx hb dX4_setLine_12 (by decide) (fun c_12 => ?_) (fun c_12 => ?_)
  · obtain ⟨j, hj, rfl⟩ := inN_ex c_12 (by omega)
    have htnj := tn_nI (j := j) (by omega)
    have hl : lv_has ls 5 [(0, .ref (ad 50)), (1, .int (nI j)), (2, .int p1), (3, .int p2)] := hl
    refine lv_iload_n hx hb dX4_setLine_21 rfl (lv_at hl 2 rfl) ?_
    refine lv_bipush (v := (-9)) hx hb dX4_setLine_22 (by decide) ?_
    refine lv_bipush (v := nI 9) hx hb dX4_setLine_24 (by decide) ?_
    refine m_callSi (As := [.int p1, .int ((-9)), .int (nI 9)]) (rest := []) ⟨hx, hb, hml, hown, hts⟩ hE hI (c_X4_isIn k l ad N g1 _ p1 ((-9)) (nI 9)) (va_cwS 3 hts gX4_setLine_X4_isIn rfl rfl rfl (by decide +kernel) ⟨Nat.le_of_ble_eq_true rfl, Nat.le_of_ble_eq_true rfl⟩) rfl hl.1 rfl (Nat.le_of_ble_eq_true rfl) dX4_setLine_26 ⟨Nat.le_of_ble_eq_true rfl, Nat.le_of_ble_eq_true rfl⟩ (m_deti (fun H locs hI => ?_))
    refine m_top (show bI (decide ((-9) ≤ p1) && decide (p1 ≤ nI 9)) = bI (in9 p1) from by rw [isIn_9]) ?_
    refine m_zeqB (tgt := 39) hx hb dX4_setLine_29 (by decide) (fun c_29 => ?_) (fun c_29 => ?_)
    · refine lv_aload_n hx hb dX4_setLine_39 rfl (lv_at hl 0 rfl) ?_
      refine lv_iconst (v := nI 2) hx hb dX4_setLine_40 (by decide) ?_
      refine m_callVi (As := [.int (nI 2)]) (rest := []) ⟨hx, hb, hml, hown, hts⟩ hE hI (c_X4_fail k l ad N g1 _ 0 uns play rd n lat gar T came mis lost bel fig u ln pg 2 (by omega) hW hwf (by omega) ⟨m_1, m_2, m_3, m_4, m_5, m_6⟩ ) (cwV 1 hts gX4_setLine_X4_fail rfl rfl rfl (by decide +kernel) ⟨Nat.le_of_ble_eq_true rfl, Nat.le_of_ble_eq_true rfl⟩) (i := 50) (by omega) m_1 rfl rfl hl.1 rfl (Nat.le_of_ble_eq_true rfl) dX4_setLine_41 ⟨Nat.le_of_ble_eq_true rfl, Nat.le_of_ble_eq_true rfl⟩ (m_deti (fun H locs hI => ?_))
      obtain ⟨g2, hg2⟩ : ∃ zz, zz = va_up g1 50 (.inr (4, [.int (nI 2), .int (bI fig), .int (bI uns), .int (nI play), .int (nI u), .ref (ad 51), .ref (ad 52), .ref (ad 53), .ref (ad 54), .ref (ad 55), .int (nI n), .int (nI rd), .int (nI came), .int mis, .int lost, .int bel])) := ⟨_, rfl⟩
      replace hI : mI k ad N g2 (mA ad N s.heap.size) s H locs := by rw [hg2]; exact hI
      have m_7 : g2 50 = .inr (4, [.int (nI 2), .int (bI fig), .int (bI uns), .int (nI play), .int (nI u), .ref (ad 51), .ref (ad 52), .ref (ad 53), .ref (ad 54), .ref (ad 55), .int (nI n), .int (nI rd), .int (nI came), .int mis, .int lost, .int bel]) := by rw [hg2, va_up_self]
      have m_8 : g2 51 = .inl (k.2.1.1, 20, .inl (fun j => nI (ln j))) := by rw [hg2, va_up_ne _ _ (by omega)]; exact m_2
      have m_9 : g2 52 = .inl (k.2.1.1, 800, .inl (fun j => nI (pg j))) := by rw [hg2, va_up_ne _ _ (by omega)]; exact m_3
      have m_10 : g2 53 = .inl (k.2.1.1, 16, .inl lat) := by rw [hg2, va_up_ne _ _ (by omega)]; exact m_4
      have m_11 : g2 54 = .inl (k.2.1.1, 16, .inl (fun j => nI (gar j))) := by rw [hg2, va_up_ne _ _ (by omega)]; exact m_5
      have m_12 : g2 55 = .inl (k.2.1.1, 120, .inl (fun j => nI (T j))) := by rw [hg2, va_up_ne _ _ (by omega)]; exact m_6
      exact m_iret hx hb hr hlocks hI (⟨Or.inr (Or.inr (⟨⟨c_12, by rw [c_29] <;> rfl⟩, ⟨m_7, m_8, m_9, m_10, m_11, m_12⟩⟩)), fun i hi => by rw [hg2, va_up_ne _ _ (by omega), hg1, va_up_ne _ _ (by omega)]⟩) dX4_setLine_44
    · refine lv_iload_n hx hb dX4_setLine_32 rfl (lv_at hl 3 rfl) ?_
      refine m_callSi (As := [.int p2]) (rest := []) ⟨hx, hb, hml, hown, hts⟩ hE hI (c_X4_isCode k l ad N g1 _ p2 ) (va_cwS 1 hts gX4_setLine_X4_isCode rfl rfl rfl (by decide +kernel) ⟨Nat.le_of_ble_eq_true rfl, Nat.le_of_ble_eq_true rfl⟩) rfl hl.1 rfl (Nat.le_of_ble_eq_true rfl) dX4_setLine_33 ⟨Nat.le_of_ble_eq_true rfl, Nat.le_of_ble_eq_true rfl⟩ (m_deti (fun H locs hI => ?_))
      refine m_zneB (tgt := 45) hx hb dX4_setLine_36 (by decide) (fun c_36 => ?_) (fun c_36 => ?_)
      · obtain ⟨q, hq, rfl⟩ := inN_ex c_36 (by omega)
        have htnq := tn_nI (j := q) (by omega)
        have hl : lv_has ls 5 [(0, .ref (ad 50)), (1, .int (nI j)), (2, .int p1), (3, .int (nI q))] := hl
        refine lv_aload_n hx hb dX4_setLine_45 rfl (lv_at hl 0 rfl) ?_
        refine m_get (ci := 4) (C := RX4) (T := TX4) (N' := 16) hx hb hts (by decide +kernel) hown hE hI 50 (by omega) m_1 rfl 7 (by decide) (hts (.fieldLink RX4 20 "TapePrinterModel" "lates" "[I") (by decide +kernel)) rfl dX4_setLine_46 ?_
        refine lv_iload_n hx hb dX4_setLine_49 rfl (lv_at hl 1 rfl) ?_
        refine m_iald hx hb hE hI 53 (by omega) (j := j) m_4 (by omega) (by omega) dX4_setLine_50 ?_
        refine lv_istore (lv' := [(4, .int (lat j)), (0, .ref (ad 50)), (1, .int (nI j)), (2, .int p1), (3, .int (nI q))]) hx hb dX4_setLine_51 hl (by decide) rfl (fun ls hl => ?_)
        refine lv_aload_n hx hb dX4_setLine_53 rfl (lv_at hl 1 rfl) ?_
        refine m_get (ci := 4) (C := RX4) (T := TX4) (N' := 16) hx hb hts (by decide +kernel) hown hE hI 50 (by omega) m_1 rfl 7 (by decide) (hts (.fieldLink RX4 20 "TapePrinterModel" "lates" "[I") (by decide +kernel)) rfl dX4_setLine_54 ?_
        refine lv_iload_n hx hb dX4_setLine_57 rfl (lv_at hl 2 rfl) ?_
        refine lv_iload_n hx hb dX4_setLine_58 rfl (lv_at hl 3 rfl) ?_
        refine m_iast hx hb hE hI 53 (by omega) (j := j) m_4 (by omega) (by omega) dX4_setLine_59 (fun H locs hI => ?_)
        obtain ⟨g3, hg3⟩ : ∃ zz, zz = va_up g1 53 (.inl (k.2.1.1, 16, .inl (upd lat j p1))) := ⟨_, rfl⟩
        replace hI : mI k ad N g3 (mA ad N s.heap.size) s H locs := by rw [hg3]; exact hI
        have m_13 : g3 50 = .inr (4, [.int (nI 0), .int (bI fig), .int (bI uns), .int (nI play), .int (nI u), .ref (ad 51), .ref (ad 52), .ref (ad 53), .ref (ad 54), .ref (ad 55), .int (nI n), .int (nI rd), .int (nI came), .int mis, .int lost, .int bel]) := by rw [hg3, va_up_ne _ _ (by omega)]; exact m_1
        have m_14 : g3 51 = .inl (k.2.1.1, 20, .inl (fun j => nI (ln j))) := by rw [hg3, va_up_ne _ _ (by omega)]; exact m_2
        have m_15 : g3 52 = .inl (k.2.1.1, 800, .inl (fun j => nI (pg j))) := by rw [hg3, va_up_ne _ _ (by omega)]; exact m_3
        have m_16 : g3 53 = .inl (k.2.1.1, 16, .inl (upd lat j p1)) := by rw [hg3, va_up_self]
        have m_17 : g3 54 = .inl (k.2.1.1, 16, .inl (fun j => nI (gar j))) := by rw [hg3, va_up_ne _ _ (by omega)]; exact m_5
        have m_18 : g3 55 = .inl (k.2.1.1, 120, .inl (fun j => nI (T j))) := by rw [hg3, va_up_ne _ _ (by omega)]; exact m_6
        refine lv_aload_n hx hb dX4_setLine_60 rfl (lv_at hl 1 rfl) ?_
        refine m_get (ci := 4) (C := RX4) (T := TX4) (N' := 16) hx hb hts (by decide +kernel) hown hE hI 50 (by omega) m_13 rfl 8 (by decide) (hts (.fieldLink RX4 23 "TapePrinterModel" "garbles" "[I") (by decide +kernel)) rfl dX4_setLine_61 ?_
        refine lv_iload_n hx hb dX4_setLine_64 rfl (lv_at hl 2 rfl) ?_
        refine lv_iload_n hx hb dX4_setLine_65 rfl (lv_at hl 4 rfl) ?_
        refine m_iast hx hb hE hI 54 (by omega) (j := j) m_17 (by omega) (by omega) dX4_setLine_66 (fun H locs hI => ?_)
        obtain ⟨g4, hg4⟩ : ∃ zz, zz = va_up g3 54 (.inl (k.2.1.1, 16, .inl (upd (fun j => nI (gar j)) j (nI q)))) := ⟨_, rfl⟩
        replace hI : mI k ad N g4 (mA ad N s.heap.size) s H locs := by rw [hg4]; exact hI
        have m_19 : g4 50 = .inr (4, [.int (nI 0), .int (bI fig), .int (bI uns), .int (nI play), .int (nI u), .ref (ad 51), .ref (ad 52), .ref (ad 53), .ref (ad 54), .ref (ad 55), .int (nI n), .int (nI rd), .int (nI came), .int mis, .int lost, .int bel]) := by rw [hg4, va_up_ne _ _ (by omega)]; exact m_13
        have m_20 : g4 51 = .inl (k.2.1.1, 20, .inl (fun j => nI (ln j))) := by rw [hg4, va_up_ne _ _ (by omega)]; exact m_14
        have m_21 : g4 52 = .inl (k.2.1.1, 800, .inl (fun j => nI (pg j))) := by rw [hg4, va_up_ne _ _ (by omega)]; exact m_15
        have m_22 : g4 53 = .inl (k.2.1.1, 16, .inl (upd lat j p1)) := by rw [hg4, va_up_ne _ _ (by omega)]; exact m_16
        have m_23 : g4 54 = .inl (k.2.1.1, 16, .inl (upd (fun j => nI (gar j)) j (nI q))) := by rw [hg4, va_up_self]
        have m_24 : g4 55 = .inl (k.2.1.1, 120, .inl (fun j => nI (T j))) := by rw [hg4, va_up_ne _ _ (by omega)]; exact m_18
        refine lv_iload hx hb dX4_setLine_67 (lv_at hl 0 rfl) ?_
        exact m_iret hx hb hr hlocks hI (⟨Or.inl (⟨⟨c_12, by rw [c_29, c_36] <;> rfl⟩, by rw [htnj], by rw [htnj, htnq]; exact ⟨m_19, m_20, m_21, m_22, by rw [m_23, upd_nI], m_24⟩⟩), fun i hi => by rw [hg4, va_up_ne _ _ (by omega), hg3, va_up_ne _ _ (by omega), hg1, va_up_ne _ _ (by omega)]⟩) dX4_setLine_69
      · refine lv_aload_n hx hb dX4_setLine_39 rfl (lv_at hl 0 rfl) ?_
        refine lv_iconst (v := nI 2) hx hb dX4_setLine_40 (by decide) ?_
        refine m_callVi (As := [.int (nI 2)]) (rest := []) ⟨hx, hb, hml, hown, hts⟩ hE hI (c_X4_fail k l ad N g1 _ 0 uns play rd n lat gar T came mis lost bel fig u ln pg 2 (by omega) hW hwf (by omega) ⟨m_1, m_2, m_3, m_4, m_5, m_6⟩ ) (cwV 1 hts gX4_setLine_X4_fail rfl rfl rfl (by decide +kernel) ⟨Nat.le_of_ble_eq_true rfl, Nat.le_of_ble_eq_true rfl⟩) (i := 50) (by omega) m_1 rfl rfl hl.1 rfl (Nat.le_of_ble_eq_true rfl) dX4_setLine_41 ⟨Nat.le_of_ble_eq_true rfl, Nat.le_of_ble_eq_true rfl⟩ (m_deti (fun H locs hI => ?_))
        obtain ⟨g5, hg5⟩ : ∃ zz, zz = va_up g1 50 (.inr (4, [.int (nI 2), .int (bI fig), .int (bI uns), .int (nI play), .int (nI u), .ref (ad 51), .ref (ad 52), .ref (ad 53), .ref (ad 54), .ref (ad 55), .int (nI n), .int (nI rd), .int (nI came), .int mis, .int lost, .int bel])) := ⟨_, rfl⟩
        replace hI : mI k ad N g5 (mA ad N s.heap.size) s H locs := by rw [hg5]; exact hI
        have m_25 : g5 50 = .inr (4, [.int (nI 2), .int (bI fig), .int (bI uns), .int (nI play), .int (nI u), .ref (ad 51), .ref (ad 52), .ref (ad 53), .ref (ad 54), .ref (ad 55), .int (nI n), .int (nI rd), .int (nI came), .int mis, .int lost, .int bel]) := by rw [hg5, va_up_self]
        have m_26 : g5 51 = .inl (k.2.1.1, 20, .inl (fun j => nI (ln j))) := by rw [hg5, va_up_ne _ _ (by omega)]; exact m_2
        have m_27 : g5 52 = .inl (k.2.1.1, 800, .inl (fun j => nI (pg j))) := by rw [hg5, va_up_ne _ _ (by omega)]; exact m_3
        have m_28 : g5 53 = .inl (k.2.1.1, 16, .inl lat) := by rw [hg5, va_up_ne _ _ (by omega)]; exact m_4
        have m_29 : g5 54 = .inl (k.2.1.1, 16, .inl (fun j => nI (gar j))) := by rw [hg5, va_up_ne _ _ (by omega)]; exact m_5
        have m_30 : g5 55 = .inl (k.2.1.1, 120, .inl (fun j => nI (T j))) := by rw [hg5, va_up_ne _ _ (by omega)]; exact m_6
        exact m_iret hx hb hr hlocks hI (⟨Or.inr (Or.inr (⟨⟨c_12, by rw [c_36, Bool.and_false]⟩, ⟨m_25, m_26, m_27, m_28, m_29, m_30⟩⟩)), fun i hi => by rw [hg5, va_up_ne _ _ (by omega), hg1, va_up_ne _ _ (by omega)]⟩) dX4_setLine_44
  · refine lv_aload_n hx hb dX4_setLine_15 rfl (lv_at hl 0 rfl) ?_
    refine lv_iconst (v := nI 1) hx hb dX4_setLine_16 (by decide) ?_
    refine m_callVi (As := [.int (nI 1)]) (rest := []) ⟨hx, hb, hml, hown, hts⟩ hE hI (c_X4_fail k l ad N g1 _ 0 uns play rd n lat gar T came mis lost bel fig u ln pg 1 (by omega) hW hwf (by omega) ⟨m_1, m_2, m_3, m_4, m_5, m_6⟩ ) (cwV 1 hts gX4_setLine_X4_fail rfl rfl rfl (by decide +kernel) ⟨Nat.le_of_ble_eq_true rfl, Nat.le_of_ble_eq_true rfl⟩) (i := 50) (by omega) m_1 rfl rfl hl.1 rfl (Nat.le_of_ble_eq_true rfl) dX4_setLine_17 ⟨Nat.le_of_ble_eq_true rfl, Nat.le_of_ble_eq_true rfl⟩ (m_deti (fun H locs hI => ?_))
    obtain ⟨g6, hg6⟩ : ∃ zz, zz = va_up g1 50 (.inr (4, [.int (nI 1), .int (bI fig), .int (bI uns), .int (nI play), .int (nI u), .ref (ad 51), .ref (ad 52), .ref (ad 53), .ref (ad 54), .ref (ad 55), .int (nI n), .int (nI rd), .int (nI came), .int mis, .int lost, .int bel])) := ⟨_, rfl⟩
    replace hI : mI k ad N g6 (mA ad N s.heap.size) s H locs := by rw [hg6]; exact hI
    have m_31 : g6 50 = .inr (4, [.int (nI 1), .int (bI fig), .int (bI uns), .int (nI play), .int (nI u), .ref (ad 51), .ref (ad 52), .ref (ad 53), .ref (ad 54), .ref (ad 55), .int (nI n), .int (nI rd), .int (nI came), .int mis, .int lost, .int bel]) := by rw [hg6, va_up_self]
    have m_32 : g6 51 = .inl (k.2.1.1, 20, .inl (fun j => nI (ln j))) := by rw [hg6, va_up_ne _ _ (by omega)]; exact m_2
    have m_33 : g6 52 = .inl (k.2.1.1, 800, .inl (fun j => nI (pg j))) := by rw [hg6, va_up_ne _ _ (by omega)]; exact m_3
    have m_34 : g6 53 = .inl (k.2.1.1, 16, .inl lat) := by rw [hg6, va_up_ne _ _ (by omega)]; exact m_4
    have m_35 : g6 54 = .inl (k.2.1.1, 16, .inl (fun j => nI (gar j))) := by rw [hg6, va_up_ne _ _ (by omega)]; exact m_5
    have m_36 : g6 55 = .inl (k.2.1.1, 120, .inl (fun j => nI (T j))) := by rw [hg6, va_up_ne _ _ (by omega)]; exact m_6
    exact m_iret hx hb hr hlocks hI (⟨Or.inr (Or.inl (⟨c_12, ⟨m_31, m_32, m_33, m_34, m_35, m_36⟩⟩)), fun i hi => by rw [hg6, va_up_ne _ _ (by omega), hg1, va_up_ne _ _ (by omega)]⟩) dX4_setLine_20
set_option maxHeartbeats 8000000 in
set_option maxRecDepth 100000 in
theorem c_X4_setPlay (k : mC) (l : Launch) (ad : Nat → Nat) (N : Nat) (g : Nat → va_E) (sz : Nat) (th : Nat) (uns : Bool) (play rd n : Nat) (lat : Nat → Int32) (gar T : Nat → Nat) (came : Nat) (mis lost bel : Int32) (fig : Bool) (u : Nat) (ln pg : Nat → Nat) (p0 : Int32) (hN : 56 ≤ N) (hW : CW play rd n lat gar T) (hwf : mWf (u, ln, pg)) (hcame : came < 2000000000) (hM0 : MR k ad g th uns play rd n lat gar T (came, mis, lost, bel, fig, u, ln, pg))  : mCi k l yX4_setPlay wsX4_setPlay { frames := 1, cells := 0, slots := 0, locals := 22 } ad N g sz [.ref (ad 50), .int p0] (fun r1 g1 => ((inN p0 10 = true ∧ r1 = nI play ∧ MR k ad g1 0 uns (tn p0) rd n lat gar T (came, mis, lost, bel, fig, u, ln, pg)) ∨ (inN p0 10 = false ∧ MR k ad g1 1 uns play rd n lat gar T (came, mis, lost, bel, fig, u, ln, pg))) ∧ ∀ i, (i < 50 ∨ 56 ≤ i) → g1 i = g i) := by
  refine mOf (Qc := fun z9 => va_Qi (fun r1 g1 => ((inN p0 10 = true ∧ r1 = nI play ∧ MR k ad g1 0 uns (tn p0) rd n lat gar T (came, mis, lost, bel, fig, u, ln, pg)) ∨ (inN p0 10 = false ∧ MR k ad g1 1 uns play rd n lat gar T (came, mis, lost, bel, fig, u, ln, pg))) ∧ ∀ i, (i < 50 ∨ 56 ≤ i) → g1 i = g i) (mB k ad N) (mA ad N z9)) (cc := cX4_setPlay) (maxL := 3) (ret := (some .int)) (by decide) rfl (Nat.le_of_ble_eq_true rfl) ?_
  intro p e s m below meth c hx hb hr hts hown hlocks hml hin hE hI ls hl
  have hl : lv_has ls 3 [(0, .ref (ad 50)), (1, .int p0)] := hl
  have h50 : g 50 = .inr (4, [.int (nI th), .int (bI fig), .int (bI uns), .int (nI play), .int (nI u), .ref (ad 51), .ref (ad 52), .ref (ad 53), .ref (ad 54), .ref (ad 55), .int (nI n), .int (nI rd), .int (nI came), .int mis, .int lost, .int bel]) := hM0.1
  have h51 : g 51 = .inl (k.2.1.1, 20, .inl (fun j => nI (ln j))) := hM0.2.1
  have h52 : g 52 = .inl (k.2.1.1, 800, .inl (fun j => nI (pg j))) := hM0.2.2.1
  have h53 : g 53 = .inl (k.2.1.1, 16, .inl lat) := hM0.2.2.2.1
  have h54 : g 54 = .inl (k.2.1.1, 16, .inl (fun j => nI (gar j))) := hM0.2.2.2.2.1
  have h55 : g 55 = .inl (k.2.1.1, 120, .inl (fun j => nI (T j))) := hM0.2.2.2.2.2
  obtain ⟨hplay, hrd, hn, hgar, hT, hlat⟩ := id hW
  have hu0 : 0 < u := hwf.1
  have hu : u ≤ 20 := hwf.2.1
  have hln : ∀ j, j < 20 → ln j ≤ 40 := hwf.2.2
  refine lv_aload_n hx hb dX4_setPlay_0 rfl (lv_at hl 0 rfl) ?_
  refine lv_iconst (v := nI 0) hx hb dX4_setPlay_1 (by decide) ?_
  refine m_put (ci := 4) (C := RX4) (T := TX4) (N' := 16) (ty := .int) hx hb hts (by decide +kernel) tyX4 tyX4_ok nmX4 hown hE hI 50 (by omega) h50 rfl 0 (by decide) (hts (.fieldLink RX4 29 "TapePrinterModel" "thrown" "I") (by decide +kernel)) rfl (by decide +kernel) rfl rfl (Nat.le_of_ble_eq_true rfl) dX4_setPlay_2 (fun H locs hI => ?_)
  obtain ⟨g1, hg1⟩ : ∃ zz, zz = va_up g 50 (.inr (4, [.int (nI 0), .int (bI fig), .int (bI uns), .int (nI play), .int (nI u), .ref (ad 51), .ref (ad 52), .ref (ad 53), .ref (ad 54), .ref (ad 55), .int (nI n), .int (nI rd), .int (nI came), .int mis, .int lost, .int bel])) := ⟨_, rfl⟩
  replace hI : mI k ad N g1 (mA ad N s.heap.size) s H locs := by rw [hg1]; exact hI
  have m_1 : g1 50 = .inr (4, [.int (nI 0), .int (bI fig), .int (bI uns), .int (nI play), .int (nI u), .ref (ad 51), .ref (ad 52), .ref (ad 53), .ref (ad 54), .ref (ad 55), .int (nI n), .int (nI rd), .int (nI came), .int mis, .int lost, .int bel]) := by rw [hg1, va_up_self]
  have m_2 : g1 51 = .inl (k.2.1.1, 20, .inl (fun j => nI (ln j))) := by rw [hg1, va_up_ne _ _ (by omega)]; exact h51
  have m_3 : g1 52 = .inl (k.2.1.1, 800, .inl (fun j => nI (pg j))) := by rw [hg1, va_up_ne _ _ (by omega)]; exact h52
  have m_4 : g1 53 = .inl (k.2.1.1, 16, .inl lat) := by rw [hg1, va_up_ne _ _ (by omega)]; exact h53
  have m_5 : g1 54 = .inl (k.2.1.1, 16, .inl (fun j => nI (gar j))) := by rw [hg1, va_up_ne _ _ (by omega)]; exact h54
  have m_6 : g1 55 = .inl (k.2.1.1, 120, .inl (fun j => nI (T j))) := by rw [hg1, va_up_ne _ _ (by omega)]; exact h55
  refine lv_iload_n hx hb dX4_setPlay_5 rfl (lv_at hl 1 rfl) ?_
  refine lv_iconst (v := nI 0) hx hb dX4_setPlay_6 (by decide) ?_
  refine lv_bipush (v := nI 9) hx hb dX4_setPlay_7 (by decide) ?_
  refine m_callSi (As := [.int p0, .int (nI 0), .int (nI 9)]) (rest := []) ⟨hx, hb, hml, hown, hts⟩ hE hI (c_X4_isIn k l ad N g1 _ p0 (nI 0) (nI 9)) (va_cwS 3 hts gX4_setPlay_X4_isIn rfl rfl rfl (by decide +kernel) ⟨Nat.le_of_ble_eq_true rfl, Nat.le_of_ble_eq_true rfl⟩) rfl hl.1 rfl (Nat.le_of_ble_eq_true rfl) dX4_setPlay_9 ⟨Nat.le_of_ble_eq_true rfl, Nat.le_of_ble_eq_true rfl⟩ (m_deti (fun H locs hI => ?_))
  refine m_top (show bI (decide (nI 0 ≤ p0) && decide (p0 ≤ nI 9)) = bI (inN p0 10) from by rw [isIn_N (h := 9) (by omega)]) ?_
  refine m_zneB (tgt := 21) hx hb dX4_setPlay_12 (by decide) (fun c_12 => ?_) (fun c_12 => ?_)
  · obtain ⟨j, hj, rfl⟩ := inN_ex c_12 (by omega)
    have htnj := tn_nI (j := j) (by omega)
    have hl : lv_has ls 3 [(0, .ref (ad 50)), (1, .int (nI j))] := hl
    refine lv_aload_n hx hb dX4_setPlay_21 rfl (lv_at hl 0 rfl) ?_
    refine m_get (ci := 4) (C := RX4) (T := TX4) (N' := 16) hx hb hts (by decide +kernel) hown hE hI 50 (by omega) m_1 rfl 3 (by decide) (hts (.fieldLink RX4 64 "TapePrinterModel" "play" "I") (by decide +kernel)) rfl dX4_setPlay_22 ?_
    refine lv_istore_n (lv' := [(2, .int (nI play)), (0, .ref (ad 50)), (1, .int (nI j))]) hx hb dX4_setPlay_25 rfl hl (by decide) rfl (fun ls hl => ?_)
    refine lv_aload_n hx hb dX4_setPlay_26 rfl (lv_at hl 1 rfl) ?_
    refine lv_iload_n hx hb dX4_setPlay_27 rfl (lv_at hl 2 rfl) ?_
    refine m_put (ci := 4) (C := RX4) (T := TX4) (N' := 16) (ty := .int) hx hb hts (by decide +kernel) tyX4 tyX4_ok nmX4 hown hE hI 50 (by omega) m_1 rfl 3 (by decide) (hts (.fieldLink RX4 64 "TapePrinterModel" "play" "I") (by decide +kernel)) rfl (by decide +kernel) rfl rfl (Nat.le_of_ble_eq_true rfl) dX4_setPlay_28 (fun H locs hI => ?_)
    obtain ⟨g2, hg2⟩ : ∃ zz, zz = va_up g1 50 (.inr (4, [.int (nI 0), .int (bI fig), .int (bI uns), .int (nI j), .int (nI u), .ref (ad 51), .ref (ad 52), .ref (ad 53), .ref (ad 54), .ref (ad 55), .int (nI n), .int (nI rd), .int (nI came), .int mis, .int lost, .int bel])) := ⟨_, rfl⟩
    replace hI : mI k ad N g2 (mA ad N s.heap.size) s H locs := by rw [hg2]; exact hI
    have m_7 : g2 50 = .inr (4, [.int (nI 0), .int (bI fig), .int (bI uns), .int (nI j), .int (nI u), .ref (ad 51), .ref (ad 52), .ref (ad 53), .ref (ad 54), .ref (ad 55), .int (nI n), .int (nI rd), .int (nI came), .int mis, .int lost, .int bel]) := by rw [hg2, va_up_self]
    have m_8 : g2 51 = .inl (k.2.1.1, 20, .inl (fun j => nI (ln j))) := by rw [hg2, va_up_ne _ _ (by omega)]; exact m_2
    have m_9 : g2 52 = .inl (k.2.1.1, 800, .inl (fun j => nI (pg j))) := by rw [hg2, va_up_ne _ _ (by omega)]; exact m_3
    have m_10 : g2 53 = .inl (k.2.1.1, 16, .inl lat) := by rw [hg2, va_up_ne _ _ (by omega)]; exact m_4
    have m_11 : g2 54 = .inl (k.2.1.1, 16, .inl (fun j => nI (gar j))) := by rw [hg2, va_up_ne _ _ (by omega)]; exact m_5
    have m_12 : g2 55 = .inl (k.2.1.1, 120, .inl (fun j => nI (T j))) := by rw [hg2, va_up_ne _ _ (by omega)]; exact m_6
    refine lv_iload_n hx hb dX4_setPlay_31 rfl (lv_at hl 0 rfl) ?_
    exact m_iret hx hb hr hlocks hI (⟨Or.inl (⟨c_12, rfl, by rw [htnj]; exact ⟨m_7, m_8, m_9, m_10, m_11, m_12⟩⟩), fun i hi => by rw [hg2, va_up_ne _ _ (by omega), hg1, va_up_ne _ _ (by omega)]⟩) dX4_setPlay_32
  · refine lv_aload_n hx hb dX4_setPlay_15 rfl (lv_at hl 0 rfl) ?_
    refine lv_iconst (v := nI 1) hx hb dX4_setPlay_16 (by decide) ?_
    refine m_callVi (As := [.int (nI 1)]) (rest := []) ⟨hx, hb, hml, hown, hts⟩ hE hI (c_X4_fail k l ad N g1 _ 0 uns play rd n lat gar T came mis lost bel fig u ln pg 1 (by omega) hW hwf (by omega) ⟨m_1, m_2, m_3, m_4, m_5, m_6⟩ ) (cwV 1 hts gX4_setPlay_X4_fail rfl rfl rfl (by decide +kernel) ⟨Nat.le_of_ble_eq_true rfl, Nat.le_of_ble_eq_true rfl⟩) (i := 50) (by omega) m_1 rfl rfl hl.1 rfl (Nat.le_of_ble_eq_true rfl) dX4_setPlay_17 ⟨Nat.le_of_ble_eq_true rfl, Nat.le_of_ble_eq_true rfl⟩ (m_deti (fun H locs hI => ?_))
    obtain ⟨g3, hg3⟩ : ∃ zz, zz = va_up g1 50 (.inr (4, [.int (nI 1), .int (bI fig), .int (bI uns), .int (nI play), .int (nI u), .ref (ad 51), .ref (ad 52), .ref (ad 53), .ref (ad 54), .ref (ad 55), .int (nI n), .int (nI rd), .int (nI came), .int mis, .int lost, .int bel])) := ⟨_, rfl⟩
    replace hI : mI k ad N g3 (mA ad N s.heap.size) s H locs := by rw [hg3]; exact hI
    have m_13 : g3 50 = .inr (4, [.int (nI 1), .int (bI fig), .int (bI uns), .int (nI play), .int (nI u), .ref (ad 51), .ref (ad 52), .ref (ad 53), .ref (ad 54), .ref (ad 55), .int (nI n), .int (nI rd), .int (nI came), .int mis, .int lost, .int bel]) := by rw [hg3, va_up_self]
    have m_14 : g3 51 = .inl (k.2.1.1, 20, .inl (fun j => nI (ln j))) := by rw [hg3, va_up_ne _ _ (by omega)]; exact m_2
    have m_15 : g3 52 = .inl (k.2.1.1, 800, .inl (fun j => nI (pg j))) := by rw [hg3, va_up_ne _ _ (by omega)]; exact m_3
    have m_16 : g3 53 = .inl (k.2.1.1, 16, .inl lat) := by rw [hg3, va_up_ne _ _ (by omega)]; exact m_4
    have m_17 : g3 54 = .inl (k.2.1.1, 16, .inl (fun j => nI (gar j))) := by rw [hg3, va_up_ne _ _ (by omega)]; exact m_5
    have m_18 : g3 55 = .inl (k.2.1.1, 120, .inl (fun j => nI (T j))) := by rw [hg3, va_up_ne _ _ (by omega)]; exact m_6
    exact m_iret hx hb hr hlocks hI (⟨Or.inr (⟨c_12, ⟨m_13, m_14, m_15, m_16, m_17, m_18⟩⟩), fun i hi => by rw [hg3, va_up_ne _ _ (by omega), hg1, va_up_ne _ _ (by omega)]⟩) dX4_setPlay_20
set_option maxHeartbeats 8000000 in
set_option maxRecDepth 100000 in
theorem c_X4_setUnshift (k : mC) (l : Launch) (ad : Nat → Nat) (N : Nat) (g : Nat → va_E) (sz : Nat) (th : Nat) (uns : Bool) (play rd n : Nat) (lat : Nat → Int32) (gar T : Nat → Nat) (came : Nat) (mis lost bel : Int32) (fig : Bool) (u : Nat) (ln pg : Nat → Nat) (b0 : Bool) (hN : 56 ≤ N) (hW : CW play rd n lat gar T) (hwf : mWf (u, ln, pg)) (hcame : came < 2000000000) (hM0 : MR k ad g th uns play rd n lat gar T (came, mis, lost, bel, fig, u, ln, pg))  : mCi k l yX4_setUnshift wsX4_setUnshift { frames := 0, cells := 0, slots := 0, locals := 0 } ad N g sz [.ref (ad 50), .int (bI b0)] (fun r1 g1 => (r1 = bI uns ∧ MR k ad g1 0 b0 play rd n lat gar T (came, mis, lost, bel, fig, u, ln, pg)) ∧ ∀ i, (i < 50 ∨ 56 ≤ i) → g1 i = g i) := by
  refine mOf (Qc := fun z9 => va_Qi (fun r1 g1 => (r1 = bI uns ∧ MR k ad g1 0 b0 play rd n lat gar T (came, mis, lost, bel, fig, u, ln, pg)) ∧ ∀ i, (i < 50 ∨ 56 ≤ i) → g1 i = g i) (mB k ad N) (mA ad N z9)) (cc := cX4_setUnshift) (maxL := 3) (ret := (some .boolean)) (by decide) rfl (Nat.le_of_ble_eq_true rfl) ?_
  intro p e s m below meth c hx hb hr hts hown hlocks hml hin hE hI ls hl
  have hl : lv_has ls 3 [(0, .ref (ad 50)), (1, .int (bI b0))] := hl
  have h50 : g 50 = .inr (4, [.int (nI th), .int (bI fig), .int (bI uns), .int (nI play), .int (nI u), .ref (ad 51), .ref (ad 52), .ref (ad 53), .ref (ad 54), .ref (ad 55), .int (nI n), .int (nI rd), .int (nI came), .int mis, .int lost, .int bel]) := hM0.1
  have h51 : g 51 = .inl (k.2.1.1, 20, .inl (fun j => nI (ln j))) := hM0.2.1
  have h52 : g 52 = .inl (k.2.1.1, 800, .inl (fun j => nI (pg j))) := hM0.2.2.1
  have h53 : g 53 = .inl (k.2.1.1, 16, .inl lat) := hM0.2.2.2.1
  have h54 : g 54 = .inl (k.2.1.1, 16, .inl (fun j => nI (gar j))) := hM0.2.2.2.2.1
  have h55 : g 55 = .inl (k.2.1.1, 120, .inl (fun j => nI (T j))) := hM0.2.2.2.2.2
  obtain ⟨hplay, hrd, hn, hgar, hT, hlat⟩ := id hW
  have hu0 : 0 < u := hwf.1
  have hu : u ≤ 20 := hwf.2.1
  have hln : ∀ j, j < 20 → ln j ≤ 40 := hwf.2.2
  refine lv_aload_n hx hb dX4_setUnshift_0 rfl (lv_at hl 0 rfl) ?_
  refine lv_iconst (v := nI 0) hx hb dX4_setUnshift_1 (by decide) ?_
  refine m_put (ci := 4) (C := RX4) (T := TX4) (N' := 16) (ty := .int) hx hb hts (by decide +kernel) tyX4 tyX4_ok nmX4 hown hE hI 50 (by omega) h50 rfl 0 (by decide) (hts (.fieldLink RX4 29 "TapePrinterModel" "thrown" "I") (by decide +kernel)) rfl (by decide +kernel) rfl rfl (Nat.le_of_ble_eq_true rfl) dX4_setUnshift_2 (fun H locs hI => ?_)
  obtain ⟨g1, hg1⟩ : ∃ zz, zz = va_up g 50 (.inr (4, [.int (nI 0), .int (bI fig), .int (bI uns), .int (nI play), .int (nI u), .ref (ad 51), .ref (ad 52), .ref (ad 53), .ref (ad 54), .ref (ad 55), .int (nI n), .int (nI rd), .int (nI came), .int mis, .int lost, .int bel])) := ⟨_, rfl⟩
  replace hI : mI k ad N g1 (mA ad N s.heap.size) s H locs := by rw [hg1]; exact hI
  have m_1 : g1 50 = .inr (4, [.int (nI 0), .int (bI fig), .int (bI uns), .int (nI play), .int (nI u), .ref (ad 51), .ref (ad 52), .ref (ad 53), .ref (ad 54), .ref (ad 55), .int (nI n), .int (nI rd), .int (nI came), .int mis, .int lost, .int bel]) := by rw [hg1, va_up_self]
  have m_2 : g1 51 = .inl (k.2.1.1, 20, .inl (fun j => nI (ln j))) := by rw [hg1, va_up_ne _ _ (by omega)]; exact h51
  have m_3 : g1 52 = .inl (k.2.1.1, 800, .inl (fun j => nI (pg j))) := by rw [hg1, va_up_ne _ _ (by omega)]; exact h52
  have m_4 : g1 53 = .inl (k.2.1.1, 16, .inl lat) := by rw [hg1, va_up_ne _ _ (by omega)]; exact h53
  have m_5 : g1 54 = .inl (k.2.1.1, 16, .inl (fun j => nI (gar j))) := by rw [hg1, va_up_ne _ _ (by omega)]; exact h54
  have m_6 : g1 55 = .inl (k.2.1.1, 120, .inl (fun j => nI (T j))) := by rw [hg1, va_up_ne _ _ (by omega)]; exact h55
  refine lv_aload_n hx hb dX4_setUnshift_5 rfl (lv_at hl 0 rfl) ?_
  refine m_get (ci := 4) (C := RX4) (T := TX4) (N' := 16) hx hb hts (by decide +kernel) hown hE hI 50 (by omega) m_1 rfl 2 (by decide) (hts (.fieldLink RX4 67 "TapePrinterModel" "unshifts" "Z") (by decide +kernel)) rfl dX4_setUnshift_6 ?_
  refine lv_istore_n (lv' := [(2, .int (bI uns)), (0, .ref (ad 50)), (1, .int (bI b0))]) hx hb dX4_setUnshift_9 rfl hl (by decide) rfl (fun ls hl => ?_)
  refine lv_aload_n hx hb dX4_setUnshift_10 rfl (lv_at hl 1 rfl) ?_
  refine lv_iload_n hx hb dX4_setUnshift_11 rfl (lv_at hl 2 rfl) ?_
  refine m_put (ci := 4) (C := RX4) (T := TX4) (N' := 16) (ty := .boolean) hx hb hts (by decide +kernel) tyX4 tyX4_ok nmX4 hown hE hI 50 (by omega) m_1 rfl 2 (by decide) (hts (.fieldLink RX4 67 "TapePrinterModel" "unshifts" "Z") (by decide +kernel)) rfl (by decide +kernel) (bI_nar _) (bI_fit _) (Nat.le_of_ble_eq_true rfl) dX4_setUnshift_12 (fun H locs hI => ?_)
  obtain ⟨g2, hg2⟩ : ∃ zz, zz = va_up g1 50 (.inr (4, [.int (nI 0), .int (bI fig), .int (bI b0), .int (nI play), .int (nI u), .ref (ad 51), .ref (ad 52), .ref (ad 53), .ref (ad 54), .ref (ad 55), .int (nI n), .int (nI rd), .int (nI came), .int mis, .int lost, .int bel])) := ⟨_, rfl⟩
  replace hI : mI k ad N g2 (mA ad N s.heap.size) s H locs := by rw [hg2]; exact hI
  have m_7 : g2 50 = .inr (4, [.int (nI 0), .int (bI fig), .int (bI b0), .int (nI play), .int (nI u), .ref (ad 51), .ref (ad 52), .ref (ad 53), .ref (ad 54), .ref (ad 55), .int (nI n), .int (nI rd), .int (nI came), .int mis, .int lost, .int bel]) := by rw [hg2, va_up_self]
  have m_8 : g2 51 = .inl (k.2.1.1, 20, .inl (fun j => nI (ln j))) := by rw [hg2, va_up_ne _ _ (by omega)]; exact m_2
  have m_9 : g2 52 = .inl (k.2.1.1, 800, .inl (fun j => nI (pg j))) := by rw [hg2, va_up_ne _ _ (by omega)]; exact m_3
  have m_10 : g2 53 = .inl (k.2.1.1, 16, .inl lat) := by rw [hg2, va_up_ne _ _ (by omega)]; exact m_4
  have m_11 : g2 54 = .inl (k.2.1.1, 16, .inl (fun j => nI (gar j))) := by rw [hg2, va_up_ne _ _ (by omega)]; exact m_5
  have m_12 : g2 55 = .inl (k.2.1.1, 120, .inl (fun j => nI (T j))) := by rw [hg2, va_up_ne _ _ (by omega)]; exact m_6
  refine lv_iload_n hx hb dX4_setUnshift_15 rfl (lv_at hl 0 rfl) ?_
  exact m_zret (v := uns) hx hb hr hlocks hI (⟨⟨rfl, ⟨m_7, m_8, m_9, m_10, m_11, m_12⟩⟩, fun i hi => by rw [hg2, va_up_ne _ _ (by omega), hg1, va_up_ne _ _ (by omega)]⟩) dX4_setUnshift_16
set_option maxHeartbeats 8000000 in
set_option maxRecDepth 100000 in
theorem c_X4_receive (k : mC) (l : Launch) (ad : Nat → Nat) (N : Nat) (g : Nat → va_E) (sz : Nat) (th : Nat) (uns : Bool) (play rd n : Nat) (lat : Nat → Int32) (gar T : Nat → Nat) (came : Nat) (mis lost bel : Int32) (fig : Bool) (u : Nat) (ln pg : Nat → Nat) (p0 : Int32) (hN : 56 ≤ N) (hW : CW play rd n lat gar T) (hwf : mWf (u, ln, pg)) (hcame : came < 2000000000) (hM0 : MR k ad g th uns play rd n lat gar T (came, mis, lost, bel, fig, u, ln, pg))  : mCi k l yX4_receive wsX4_receive { frames := 4, cells := 0, slots := 0, locals := 103 } ad N g sz [.ref (ad 50), .int p0] (fun r1 g1 => ((inN p0 32 = true ∧ r1 = nI (rdY play lat gar came (tn p0)) ∧ MR k ad g1 0 uns play rd n lat gar T (yIn mNl mFull mAdd uns play lat gar (tn p0) (came, mis, lost, bel, fig, u, ln, pg))) ∨ (inN p0 32 = false ∧ MR k ad g1 1 uns play rd n lat gar T (came, mis, lost, bel, fig, u, ln, pg))) ∧ ∀ i, (i < 50 ∨ 56 ≤ i) → g1 i = g i) := by
  refine mOf (Qc := fun z9 => va_Qi (fun r1 g1 => ((inN p0 32 = true ∧ r1 = nI (rdY play lat gar came (tn p0)) ∧ MR k ad g1 0 uns play rd n lat gar T (yIn mNl mFull mAdd uns play lat gar (tn p0) (came, mis, lost, bel, fig, u, ln, pg))) ∨ (inN p0 32 = false ∧ MR k ad g1 1 uns play rd n lat gar T (came, mis, lost, bel, fig, u, ln, pg))) ∧ ∀ i, (i < 50 ∨ 56 ≤ i) → g1 i = g i) (mB k ad N) (mA ad N z9)) (cc := cX4_receive) (maxL := 2) (ret := (some .int)) (by decide) rfl (Nat.le_of_ble_eq_true rfl) ?_
  intro p e s m below meth c hx hb hr hts hown hlocks hml hin hE hI ls hl
  have hl : lv_has ls 2 [(0, .ref (ad 50)), (1, .int p0)] := hl
  have h50 : g 50 = .inr (4, [.int (nI th), .int (bI fig), .int (bI uns), .int (nI play), .int (nI u), .ref (ad 51), .ref (ad 52), .ref (ad 53), .ref (ad 54), .ref (ad 55), .int (nI n), .int (nI rd), .int (nI came), .int mis, .int lost, .int bel]) := hM0.1
  have h51 : g 51 = .inl (k.2.1.1, 20, .inl (fun j => nI (ln j))) := hM0.2.1
  have h52 : g 52 = .inl (k.2.1.1, 800, .inl (fun j => nI (pg j))) := hM0.2.2.1
  have h53 : g 53 = .inl (k.2.1.1, 16, .inl lat) := hM0.2.2.2.1
  have h54 : g 54 = .inl (k.2.1.1, 16, .inl (fun j => nI (gar j))) := hM0.2.2.2.2.1
  have h55 : g 55 = .inl (k.2.1.1, 120, .inl (fun j => nI (T j))) := hM0.2.2.2.2.2
  obtain ⟨hplay, hrd, hn, hgar, hT, hlat⟩ := id hW
  have hu0 : 0 < u := hwf.1
  have hu : u ≤ 20 := hwf.2.1
  have hln : ∀ j, j < 20 → ln j ≤ 40 := hwf.2.2
  refine lv_aload_n hx hb dX4_receive_0 rfl (lv_at hl 0 rfl) ?_
  refine lv_iconst (v := nI 0) hx hb dX4_receive_1 (by decide) ?_
  refine m_put (ci := 4) (C := RX4) (T := TX4) (N' := 16) (ty := .int) hx hb hts (by decide +kernel) tyX4 tyX4_ok nmX4 hown hE hI 50 (by omega) h50 rfl 0 (by decide) (hts (.fieldLink RX4 29 "TapePrinterModel" "thrown" "I") (by decide +kernel)) rfl (by decide +kernel) rfl rfl (Nat.le_of_ble_eq_true rfl) dX4_receive_2 (fun H locs hI => ?_)
  obtain ⟨g1, hg1⟩ : ∃ zz, zz = va_up g 50 (.inr (4, [.int (nI 0), .int (bI fig), .int (bI uns), .int (nI play), .int (nI u), .ref (ad 51), .ref (ad 52), .ref (ad 53), .ref (ad 54), .ref (ad 55), .int (nI n), .int (nI rd), .int (nI came), .int mis, .int lost, .int bel])) := ⟨_, rfl⟩
  replace hI : mI k ad N g1 (mA ad N s.heap.size) s H locs := by rw [hg1]; exact hI
  have m_1 : g1 50 = .inr (4, [.int (nI 0), .int (bI fig), .int (bI uns), .int (nI play), .int (nI u), .ref (ad 51), .ref (ad 52), .ref (ad 53), .ref (ad 54), .ref (ad 55), .int (nI n), .int (nI rd), .int (nI came), .int mis, .int lost, .int bel]) := by rw [hg1, va_up_self]
  have m_2 : g1 51 = .inl (k.2.1.1, 20, .inl (fun j => nI (ln j))) := by rw [hg1, va_up_ne _ _ (by omega)]; exact h51
  have m_3 : g1 52 = .inl (k.2.1.1, 800, .inl (fun j => nI (pg j))) := by rw [hg1, va_up_ne _ _ (by omega)]; exact h52
  have m_4 : g1 53 = .inl (k.2.1.1, 16, .inl lat) := by rw [hg1, va_up_ne _ _ (by omega)]; exact h53
  have m_5 : g1 54 = .inl (k.2.1.1, 16, .inl (fun j => nI (gar j))) := by rw [hg1, va_up_ne _ _ (by omega)]; exact h54
  have m_6 : g1 55 = .inl (k.2.1.1, 120, .inl (fun j => nI (T j))) := by rw [hg1, va_up_ne _ _ (by omega)]; exact h55
  refine lv_iload_n hx hb dX4_receive_5 rfl (lv_at hl 1 rfl) ?_
  refine m_callSi (As := [.int p0]) (rest := []) ⟨hx, hb, hml, hown, hts⟩ hE hI (c_X4_isCode k l ad N g1 _ p0 ) (va_cwS 1 hts gX4_receive_X4_isCode rfl rfl rfl (by decide +kernel) ⟨Nat.le_of_ble_eq_true rfl, Nat.le_of_ble_eq_true rfl⟩) rfl hl.1 rfl (Nat.le_of_ble_eq_true rfl) dX4_receive_6 ⟨Nat.le_of_ble_eq_true rfl, Nat.le_of_ble_eq_true rfl⟩ (m_deti (fun H locs hI => ?_))
  refine m_zeqB (tgt := 20) hx hb dX4_receive_9 (by decide) (fun c_9 => ?_) (fun c_9 => ?_)
  · refine lv_aload_n hx hb dX4_receive_20 rfl (lv_at hl 0 rfl) ?_
    refine lv_iconst (v := nI 1) hx hb dX4_receive_21 (by decide) ?_
    refine m_callVi (As := [.int (nI 1)]) (rest := []) ⟨hx, hb, hml, hown, hts⟩ hE hI (c_X4_fail k l ad N g1 _ 0 uns play rd n lat gar T came mis lost bel fig u ln pg 1 (by omega) hW hwf (by omega) ⟨m_1, m_2, m_3, m_4, m_5, m_6⟩ ) (cwV 1 hts gX4_receive_X4_fail rfl rfl rfl (by decide +kernel) ⟨Nat.le_of_ble_eq_true rfl, Nat.le_of_ble_eq_true rfl⟩) (i := 50) (by omega) m_1 rfl rfl hl.1 rfl (Nat.le_of_ble_eq_true rfl) dX4_receive_22 ⟨Nat.le_of_ble_eq_true rfl, Nat.le_of_ble_eq_true rfl⟩ (m_deti (fun H locs hI => ?_))
    obtain ⟨g2, hg2⟩ : ∃ zz, zz = va_up g1 50 (.inr (4, [.int (nI 1), .int (bI fig), .int (bI uns), .int (nI play), .int (nI u), .ref (ad 51), .ref (ad 52), .ref (ad 53), .ref (ad 54), .ref (ad 55), .int (nI n), .int (nI rd), .int (nI came), .int mis, .int lost, .int bel])) := ⟨_, rfl⟩
    replace hI : mI k ad N g2 (mA ad N s.heap.size) s H locs := by rw [hg2]; exact hI
    have m_7 : g2 50 = .inr (4, [.int (nI 1), .int (bI fig), .int (bI uns), .int (nI play), .int (nI u), .ref (ad 51), .ref (ad 52), .ref (ad 53), .ref (ad 54), .ref (ad 55), .int (nI n), .int (nI rd), .int (nI came), .int mis, .int lost, .int bel]) := by rw [hg2, va_up_self]
    have m_8 : g2 51 = .inl (k.2.1.1, 20, .inl (fun j => nI (ln j))) := by rw [hg2, va_up_ne _ _ (by omega)]; exact m_2
    have m_9 : g2 52 = .inl (k.2.1.1, 800, .inl (fun j => nI (pg j))) := by rw [hg2, va_up_ne _ _ (by omega)]; exact m_3
    have m_10 : g2 53 = .inl (k.2.1.1, 16, .inl lat) := by rw [hg2, va_up_ne _ _ (by omega)]; exact m_4
    have m_11 : g2 54 = .inl (k.2.1.1, 16, .inl (fun j => nI (gar j))) := by rw [hg2, va_up_ne _ _ (by omega)]; exact m_5
    have m_12 : g2 55 = .inl (k.2.1.1, 120, .inl (fun j => nI (T j))) := by rw [hg2, va_up_ne _ _ (by omega)]; exact m_6
    exact m_iret hx hb hr hlocks hI (⟨Or.inr (⟨c_9, ⟨m_7, m_8, m_9, m_10, m_11, m_12⟩⟩), fun i hi => by rw [hg2, va_up_ne _ _ (by omega), hg1, va_up_ne _ _ (by omega)]⟩) dX4_receive_25
  · obtain ⟨j, hj, rfl⟩ := inN_ex c_9 (by omega)
    have htnj := tn_nI (j := j) (by omega)
    have hl : lv_has ls 2 [(0, .ref (ad 50)), (1, .int (nI j))] := hl
    refine lv_aload_n hx hb dX4_receive_12 rfl (lv_at hl 0 rfl) ?_
    refine lv_iload_n hx hb dX4_receive_13 rfl (lv_at hl 1 rfl) ?_
    refine m_callVi (As := [.int (nI j)]) (rest := []) ⟨hx, hb, hml, hown, hts⟩ hE hI (c_X4_come k l ad N g1 _ 0 uns play rd n lat gar T came mis lost bel fig u ln pg j (by omega) hW hwf (by omega) ⟨m_1, m_2, m_3, m_4, m_5, m_6⟩ (by omega)) (cwV 1 hts gX4_receive_X4_come rfl rfl rfl (by decide +kernel) ⟨Nat.le_of_ble_eq_true rfl, Nat.le_of_ble_eq_true rfl⟩) (i := 50) (by omega) m_1 rfl rfl hl.1 rfl (Nat.le_of_ble_eq_true rfl) dX4_receive_14 ⟨Nat.le_of_ble_eq_true rfl, Nat.le_of_ble_eq_true rfl⟩ (fun r9 g9 H locs hp hI => ?_)
    obtain ⟨hrr, hM8, hk8⟩ := hp
    subst hrr
    refine lv_goto (tgt := 25) hx hb dX4_receive_17 (by decide) ?_
    exact m_iret hx hb hr hlocks hI (⟨Or.inl (⟨c_9, by rw [htnj], by rw [htnj]; exact hM8⟩), fun i hi => by rw [hk8 i hi, hg1, va_up_ne _ _ (by omega)]⟩) dX4_receive_25
set_option maxHeartbeats 8000000 in
set_option maxRecDepth 100000 in
theorem c_X4_punch (k : mC) (l : Launch) (ad : Nat → Nat) (N : Nat) (g : Nat → va_E) (sz : Nat) (th : Nat) (uns : Bool) (play rd n : Nat) (lat : Nat → Int32) (gar T : Nat → Nat) (came : Nat) (mis lost bel : Int32) (fig : Bool) (u : Nat) (ln pg : Nat → Nat) (p0 : Int32) (hN : 56 ≤ N) (hW : CW play rd n lat gar T) (hwf : mWf (u, ln, pg)) (hcame : came < 2000000000) (hM0 : MR k ad g th uns play rd n lat gar T (came, mis, lost, bel, fig, u, ln, pg))  : mCi k l yX4_punch wsX4_punch { frames := 2, cells := 0, slots := 0, locals := 42 } ad N g sz [.ref (ad 50), .int p0] (fun r1 g1 => (((inN p0 32 = true ∧ n < 120) ∧ r1 = nI (n + 1) ∧ MR k ad g1 0 uns play rd (n + 1) lat gar (va_up T n (tn p0)) (came, mis, lost, bel, fig, u, ln, pg)) ∨ (inN p0 32 = false ∧ MR k ad g1 1 uns play rd n lat gar T (came, mis, lost, bel, fig, u, ln, pg)) ∨ ((inN p0 32 = true ∧ n = 120) ∧ MR k ad g1 2 uns play rd n lat gar T (came, mis, lost, bel, fig, u, ln, pg))) ∧ ∀ i, (i < 50 ∨ 56 ≤ i) → g1 i = g i) := by
  refine mOf (Qc := fun z9 => va_Qi (fun r1 g1 => (((inN p0 32 = true ∧ n < 120) ∧ r1 = nI (n + 1) ∧ MR k ad g1 0 uns play rd (n + 1) lat gar (va_up T n (tn p0)) (came, mis, lost, bel, fig, u, ln, pg)) ∨ (inN p0 32 = false ∧ MR k ad g1 1 uns play rd n lat gar T (came, mis, lost, bel, fig, u, ln, pg)) ∨ ((inN p0 32 = true ∧ n = 120) ∧ MR k ad g1 2 uns play rd n lat gar T (came, mis, lost, bel, fig, u, ln, pg))) ∧ ∀ i, (i < 50 ∨ 56 ≤ i) → g1 i = g i) (mB k ad N) (mA ad N z9)) (cc := cX4_punch) (maxL := 2) (ret := (some .int)) (by decide) rfl (Nat.le_of_ble_eq_true rfl) ?_
  intro p e s m below meth c hx hb hr hts hown hlocks hml hin hE hI ls hl
  have hl : lv_has ls 2 [(0, .ref (ad 50)), (1, .int p0)] := hl
  have h50 : g 50 = .inr (4, [.int (nI th), .int (bI fig), .int (bI uns), .int (nI play), .int (nI u), .ref (ad 51), .ref (ad 52), .ref (ad 53), .ref (ad 54), .ref (ad 55), .int (nI n), .int (nI rd), .int (nI came), .int mis, .int lost, .int bel]) := hM0.1
  have h51 : g 51 = .inl (k.2.1.1, 20, .inl (fun j => nI (ln j))) := hM0.2.1
  have h52 : g 52 = .inl (k.2.1.1, 800, .inl (fun j => nI (pg j))) := hM0.2.2.1
  have h53 : g 53 = .inl (k.2.1.1, 16, .inl lat) := hM0.2.2.2.1
  have h54 : g 54 = .inl (k.2.1.1, 16, .inl (fun j => nI (gar j))) := hM0.2.2.2.2.1
  have h55 : g 55 = .inl (k.2.1.1, 120, .inl (fun j => nI (T j))) := hM0.2.2.2.2.2
  obtain ⟨hplay, hrd, hn, hgar, hT, hlat⟩ := id hW
  have hu0 : 0 < u := hwf.1
  have hu : u ≤ 20 := hwf.2.1
  have hln : ∀ j, j < 20 → ln j ≤ 40 := hwf.2.2
  refine lv_aload_n hx hb dX4_punch_0 rfl (lv_at hl 0 rfl) ?_
  refine lv_iconst (v := nI 0) hx hb dX4_punch_1 (by decide) ?_
  refine m_put (ci := 4) (C := RX4) (T := TX4) (N' := 16) (ty := .int) hx hb hts (by decide +kernel) tyX4 tyX4_ok nmX4 hown hE hI 50 (by omega) h50 rfl 0 (by decide) (hts (.fieldLink RX4 29 "TapePrinterModel" "thrown" "I") (by decide +kernel)) rfl (by decide +kernel) rfl rfl (Nat.le_of_ble_eq_true rfl) dX4_punch_2 (fun H locs hI => ?_)
  obtain ⟨g1, hg1⟩ : ∃ zz, zz = va_up g 50 (.inr (4, [.int (nI 0), .int (bI fig), .int (bI uns), .int (nI play), .int (nI u), .ref (ad 51), .ref (ad 52), .ref (ad 53), .ref (ad 54), .ref (ad 55), .int (nI n), .int (nI rd), .int (nI came), .int mis, .int lost, .int bel])) := ⟨_, rfl⟩
  replace hI : mI k ad N g1 (mA ad N s.heap.size) s H locs := by rw [hg1]; exact hI
  have m_1 : g1 50 = .inr (4, [.int (nI 0), .int (bI fig), .int (bI uns), .int (nI play), .int (nI u), .ref (ad 51), .ref (ad 52), .ref (ad 53), .ref (ad 54), .ref (ad 55), .int (nI n), .int (nI rd), .int (nI came), .int mis, .int lost, .int bel]) := by rw [hg1, va_up_self]
  have m_2 : g1 51 = .inl (k.2.1.1, 20, .inl (fun j => nI (ln j))) := by rw [hg1, va_up_ne _ _ (by omega)]; exact h51
  have m_3 : g1 52 = .inl (k.2.1.1, 800, .inl (fun j => nI (pg j))) := by rw [hg1, va_up_ne _ _ (by omega)]; exact h52
  have m_4 : g1 53 = .inl (k.2.1.1, 16, .inl lat) := by rw [hg1, va_up_ne _ _ (by omega)]; exact h53
  have m_5 : g1 54 = .inl (k.2.1.1, 16, .inl (fun j => nI (gar j))) := by rw [hg1, va_up_ne _ _ (by omega)]; exact h54
  have m_6 : g1 55 = .inl (k.2.1.1, 120, .inl (fun j => nI (T j))) := by rw [hg1, va_up_ne _ _ (by omega)]; exact h55
  refine lv_iload_n hx hb dX4_punch_5 rfl (lv_at hl 1 rfl) ?_
  refine m_callSi (As := [.int p0]) (rest := []) ⟨hx, hb, hml, hown, hts⟩ hE hI (c_X4_isCode k l ad N g1 _ p0 ) (va_cwS 1 hts gX4_punch_X4_isCode rfl rfl rfl (by decide +kernel) ⟨Nat.le_of_ble_eq_true rfl, Nat.le_of_ble_eq_true rfl⟩) rfl hl.1 rfl (Nat.le_of_ble_eq_true rfl) dX4_punch_6 ⟨Nat.le_of_ble_eq_true rfl, Nat.le_of_ble_eq_true rfl⟩ (m_deti (fun H locs hI => ?_))
  refine m_zneB (tgt := 18) hx hb dX4_punch_9 (by decide) (fun c_9 => ?_) (fun c_9 => ?_)
  · obtain ⟨j, hj, rfl⟩ := inN_ex c_9 (by omega)
    have htnj := tn_nI (j := j) (by omega)
    have hl : lv_has ls 2 [(0, .ref (ad 50)), (1, .int (nI j))] := hl
    refine lv_aload_n hx hb dX4_punch_18 rfl (lv_at hl 0 rfl) ?_
    refine m_get (ci := 4) (C := RX4) (T := TX4) (N' := 16) hx hb hts (by decide +kernel) hown hE hI 50 (by omega) m_1 rfl 10 (by decide) (hts (.fieldLink RX4 109 "TapePrinterModel" "codes" "I") (by decide +kernel)) rfl dX4_punch_19 ?_
    refine lv_bipush (v := nI 120) hx hb dX4_punch_22 (by decide) ?_
    refine m_cneN (tgt := 33) hx hb (by omega) (by omega) dX4_punch_24 (by decide) (fun c_24 => ?_) (fun c_24 => ?_)
    · refine lv_aload_n hx hb dX4_punch_33 rfl (lv_at hl 0 rfl) ?_
      refine lv_iload_n hx hb dX4_punch_34 rfl (lv_at hl 1 rfl) ?_
      refine m_callVv (As := [.int (nI j)]) (rest := []) ⟨hx, hb, hml, hown, hts⟩ hE hI (c_X4_put k l ad N g1 _ 0 uns play rd n lat gar T came mis lost bel fig u ln pg j (by omega) hW hwf (by omega) ⟨m_1, m_2, m_3, m_4, m_5, m_6⟩ (by omega)) (cwV 1 hts gX4_punch_X4_put rfl rfl rfl (by decide +kernel) ⟨Nat.le_of_ble_eq_true rfl, Nat.le_of_ble_eq_true rfl⟩) (i := 50) (by omega) m_1 rfl rfl hl.1 rfl (Nat.le_of_ble_eq_true rfl) dX4_punch_35 ⟨Nat.le_of_ble_eq_true rfl, Nat.le_of_ble_eq_true rfl⟩ (m_detv (fun H locs hI => ?_))
      obtain ⟨g2, hg2⟩ : ∃ zz, zz = va_up (va_up g1 55 (.inl (k.2.1.1, 120, .inl (fun i9 => nI (va_up T n j i9))))) 50 (.inr (4, [.int (nI 0), .int (bI fig), .int (bI uns), .int (nI play), .int (nI u), .ref (ad 51), .ref (ad 52), .ref (ad 53), .ref (ad 54), .ref (ad 55), .int (nI (n + 1)), .int (nI rd), .int (nI came), .int mis, .int lost, .int bel])) := ⟨_, rfl⟩
      replace hI : mI k ad N g2 (mA ad N s.heap.size) s H locs := by rw [hg2]; exact hI
      have m_7 : g2 50 = .inr (4, [.int (nI 0), .int (bI fig), .int (bI uns), .int (nI play), .int (nI u), .ref (ad 51), .ref (ad 52), .ref (ad 53), .ref (ad 54), .ref (ad 55), .int (nI (n + 1)), .int (nI rd), .int (nI came), .int mis, .int lost, .int bel]) := by rw [hg2, va_up_self]
      have m_8 : g2 51 = .inl (k.2.1.1, 20, .inl (fun j => nI (ln j))) := by rw [hg2, va_up_ne _ _ (by omega), va_up_ne _ _ (by omega)]; exact m_2
      have m_9 : g2 52 = .inl (k.2.1.1, 800, .inl (fun j => nI (pg j))) := by rw [hg2, va_up_ne _ _ (by omega), va_up_ne _ _ (by omega)]; exact m_3
      have m_10 : g2 53 = .inl (k.2.1.1, 16, .inl lat) := by rw [hg2, va_up_ne _ _ (by omega), va_up_ne _ _ (by omega)]; exact m_4
      have m_11 : g2 54 = .inl (k.2.1.1, 16, .inl (fun j => nI (gar j))) := by rw [hg2, va_up_ne _ _ (by omega), va_up_ne _ _ (by omega)]; exact m_5
      have m_12 : g2 55 = .inl (k.2.1.1, 120, .inl (fun i9 => nI (va_up T n j i9))) := by rw [hg2, va_up_ne _ _ (by omega), va_up_self]
      have hW9 : CW play rd (n + 1) lat gar (va_up T n j) := CW.punch hW (by omega) (by first | omega | exact cd_lt _ (by omega))
      refine lv_aload_n hx hb dX4_punch_38 rfl (lv_at hl 0 rfl) ?_
      refine m_get (ci := 4) (C := RX4) (T := TX4) (N' := 16) hx hb hts (by decide +kernel) hown hE hI 50 (by omega) m_7 rfl 10 (by decide) (hts (.fieldLink RX4 109 "TapePrinterModel" "codes" "I") (by decide +kernel)) rfl dX4_punch_39 ?_
      exact m_iret hx hb hr hlocks hI (⟨Or.inl (⟨⟨c_9, by omega⟩, rfl, by rw [htnj]; exact ⟨m_7, m_8, m_9, m_10, m_11, m_12⟩⟩), fun i hi => by rw [hg2, va_up_ne _ _ (by omega), va_up_ne _ _ (by omega), hg1, va_up_ne _ _ (by omega)]⟩) dX4_punch_42
    · refine lv_aload_n hx hb dX4_punch_27 rfl (lv_at hl 0 rfl) ?_
      refine lv_iconst (v := nI 2) hx hb dX4_punch_28 (by decide) ?_
      refine m_callVi (As := [.int (nI 2)]) (rest := []) ⟨hx, hb, hml, hown, hts⟩ hE hI (c_X4_fail k l ad N g1 _ 0 uns play rd n lat gar T came mis lost bel fig u ln pg 2 (by omega) hW hwf (by omega) ⟨m_1, m_2, m_3, m_4, m_5, m_6⟩ ) (cwV 1 hts gX4_punch_X4_fail rfl rfl rfl (by decide +kernel) ⟨Nat.le_of_ble_eq_true rfl, Nat.le_of_ble_eq_true rfl⟩) (i := 50) (by omega) m_1 rfl rfl hl.1 rfl (Nat.le_of_ble_eq_true rfl) dX4_punch_29 ⟨Nat.le_of_ble_eq_true rfl, Nat.le_of_ble_eq_true rfl⟩ (m_deti (fun H locs hI => ?_))
      obtain ⟨g3, hg3⟩ : ∃ zz, zz = va_up g1 50 (.inr (4, [.int (nI 2), .int (bI fig), .int (bI uns), .int (nI play), .int (nI u), .ref (ad 51), .ref (ad 52), .ref (ad 53), .ref (ad 54), .ref (ad 55), .int (nI n), .int (nI rd), .int (nI came), .int mis, .int lost, .int bel])) := ⟨_, rfl⟩
      replace hI : mI k ad N g3 (mA ad N s.heap.size) s H locs := by rw [hg3]; exact hI
      have m_13 : g3 50 = .inr (4, [.int (nI 2), .int (bI fig), .int (bI uns), .int (nI play), .int (nI u), .ref (ad 51), .ref (ad 52), .ref (ad 53), .ref (ad 54), .ref (ad 55), .int (nI n), .int (nI rd), .int (nI came), .int mis, .int lost, .int bel]) := by rw [hg3, va_up_self]
      have m_14 : g3 51 = .inl (k.2.1.1, 20, .inl (fun j => nI (ln j))) := by rw [hg3, va_up_ne _ _ (by omega)]; exact m_2
      have m_15 : g3 52 = .inl (k.2.1.1, 800, .inl (fun j => nI (pg j))) := by rw [hg3, va_up_ne _ _ (by omega)]; exact m_3
      have m_16 : g3 53 = .inl (k.2.1.1, 16, .inl lat) := by rw [hg3, va_up_ne _ _ (by omega)]; exact m_4
      have m_17 : g3 54 = .inl (k.2.1.1, 16, .inl (fun j => nI (gar j))) := by rw [hg3, va_up_ne _ _ (by omega)]; exact m_5
      have m_18 : g3 55 = .inl (k.2.1.1, 120, .inl (fun j => nI (T j))) := by rw [hg3, va_up_ne _ _ (by omega)]; exact m_6
      exact m_iret hx hb hr hlocks hI (⟨Or.inr (Or.inr (⟨⟨c_9, c_24⟩, ⟨m_13, m_14, m_15, m_16, m_17, m_18⟩⟩)), fun i hi => by rw [hg3, va_up_ne _ _ (by omega), hg1, va_up_ne _ _ (by omega)]⟩) dX4_punch_32
  · refine lv_aload_n hx hb dX4_punch_12 rfl (lv_at hl 0 rfl) ?_
    refine lv_iconst (v := nI 1) hx hb dX4_punch_13 (by decide) ?_
    refine m_callVi (As := [.int (nI 1)]) (rest := []) ⟨hx, hb, hml, hown, hts⟩ hE hI (c_X4_fail k l ad N g1 _ 0 uns play rd n lat gar T came mis lost bel fig u ln pg 1 (by omega) hW hwf (by omega) ⟨m_1, m_2, m_3, m_4, m_5, m_6⟩ ) (cwV 1 hts gX4_punch_X4_fail rfl rfl rfl (by decide +kernel) ⟨Nat.le_of_ble_eq_true rfl, Nat.le_of_ble_eq_true rfl⟩) (i := 50) (by omega) m_1 rfl rfl hl.1 rfl (Nat.le_of_ble_eq_true rfl) dX4_punch_14 ⟨Nat.le_of_ble_eq_true rfl, Nat.le_of_ble_eq_true rfl⟩ (m_deti (fun H locs hI => ?_))
    obtain ⟨g4, hg4⟩ : ∃ zz, zz = va_up g1 50 (.inr (4, [.int (nI 1), .int (bI fig), .int (bI uns), .int (nI play), .int (nI u), .ref (ad 51), .ref (ad 52), .ref (ad 53), .ref (ad 54), .ref (ad 55), .int (nI n), .int (nI rd), .int (nI came), .int mis, .int lost, .int bel])) := ⟨_, rfl⟩
    replace hI : mI k ad N g4 (mA ad N s.heap.size) s H locs := by rw [hg4]; exact hI
    have m_19 : g4 50 = .inr (4, [.int (nI 1), .int (bI fig), .int (bI uns), .int (nI play), .int (nI u), .ref (ad 51), .ref (ad 52), .ref (ad 53), .ref (ad 54), .ref (ad 55), .int (nI n), .int (nI rd), .int (nI came), .int mis, .int lost, .int bel]) := by rw [hg4, va_up_self]
    have m_20 : g4 51 = .inl (k.2.1.1, 20, .inl (fun j => nI (ln j))) := by rw [hg4, va_up_ne _ _ (by omega)]; exact m_2
    have m_21 : g4 52 = .inl (k.2.1.1, 800, .inl (fun j => nI (pg j))) := by rw [hg4, va_up_ne _ _ (by omega)]; exact m_3
    have m_22 : g4 53 = .inl (k.2.1.1, 16, .inl lat) := by rw [hg4, va_up_ne _ _ (by omega)]; exact m_4
    have m_23 : g4 54 = .inl (k.2.1.1, 16, .inl (fun j => nI (gar j))) := by rw [hg4, va_up_ne _ _ (by omega)]; exact m_5
    have m_24 : g4 55 = .inl (k.2.1.1, 120, .inl (fun j => nI (T j))) := by rw [hg4, va_up_ne _ _ (by omega)]; exact m_6
    exact m_iret hx hb hr hlocks hI (⟨Or.inr (Or.inl (⟨c_9, ⟨m_19, m_20, m_21, m_22, m_23, m_24⟩⟩)), fun i hi => by rw [hg4, va_up_ne _ _ (by omega), hg1, va_up_ne _ _ (by omega)]⟩) dX4_punch_17
theorem ty_dep : ∀ j, j < 55 → 1 ≤ j → dep (cd j) = decide (j < 53) := by decide +kernel
theorem ty_fig {j : Nat} (h : j < 53) : (decide (26 < j) && decide (j < 53)) = decide (26 < j) := by rw [decide_eq_true h, Bool.and_true]
set_option maxHeartbeats 8000000 in
set_option maxRecDepth 100000 in
theorem c_X4_type (k : mC) (l : Launch) (ad : Nat → Nat) (N : Nat) (g : Nat → va_E) (sz : Nat) (th : Nat) (uns : Bool) (play rd n : Nat) (lat : Nat → Int32) (gar T : Nat → Nat) (came : Nat) (mis lost bel : Int32) (fig : Bool) (u : Nat) (ln pg : Nat → Nat) (p0 : Int32) (hN : 56 ≤ N) (hW : CW play rd n lat gar T) (hwf : mWf (u, ln, pg)) (hcame : came < 2000000000) (hM0 : MR k ad g th uns play rd n lat gar T (came, mis, lost, bel, fig, u, ln, pg))  : mCi k l yX4_type wsX4_type { frames := 2, cells := 0, slots := 0, locals := 45 } ad N g sz [.ref (ad 50), .int p0] (fun r1 g1 => (((inC p0 = true ∧ n + tyN uns T n (tn p0) ≤ 120) ∧ r1 = nI (tyN uns T n (tn p0)) ∧ MR k ad g1 0 uns play rd (n + tyN uns T n (tn p0)) lat gar (tyT uns T n (tn p0)) (came, mis, lost, bel, fig, u, ln, pg)) ∨ (inC p0 = false ∧ MR k ad g1 1 uns play rd n lat gar T (came, mis, lost, bel, fig, u, ln, pg)) ∨ ((inC p0 = true ∧ 120 < n + tyN uns T n (tn p0)) ∧ MR k ad g1 2 uns play rd n lat gar T (came, mis, lost, bel, fig, u, ln, pg))) ∧ ∀ i, (i < 50 ∨ 56 ≤ i) → g1 i = g i) := by
  refine mOf (Qc := fun z9 => va_Qi (fun r1 g1 => (((inC p0 = true ∧ n + tyN uns T n (tn p0) ≤ 120) ∧ r1 = nI (tyN uns T n (tn p0)) ∧ MR k ad g1 0 uns play rd (n + tyN uns T n (tn p0)) lat gar (tyT uns T n (tn p0)) (came, mis, lost, bel, fig, u, ln, pg)) ∨ (inC p0 = false ∧ MR k ad g1 1 uns play rd n lat gar T (came, mis, lost, bel, fig, u, ln, pg)) ∨ ((inC p0 = true ∧ 120 < n + tyN uns T n (tn p0)) ∧ MR k ad g1 2 uns play rd n lat gar T (came, mis, lost, bel, fig, u, ln, pg))) ∧ ∀ i, (i < 50 ∨ 56 ≤ i) → g1 i = g i) (mB k ad N) (mA ad N z9)) (cc := cX4_type) (maxL := 4) (ret := (some .int)) (by decide) rfl (Nat.le_of_ble_eq_true rfl) ?_
  intro p e s m below meth c hx hb hr hts hown hlocks hml hin hE hI ls hl
  have hl : lv_has ls 4 [(0, .ref (ad 50)), (1, .int p0)] := hl
  have h50 : g 50 = .inr (4, [.int (nI th), .int (bI fig), .int (bI uns), .int (nI play), .int (nI u), .ref (ad 51), .ref (ad 52), .ref (ad 53), .ref (ad 54), .ref (ad 55), .int (nI n), .int (nI rd), .int (nI came), .int mis, .int lost, .int bel]) := hM0.1
  have h51 : g 51 = .inl (k.2.1.1, 20, .inl (fun j => nI (ln j))) := hM0.2.1
  have h52 : g 52 = .inl (k.2.1.1, 800, .inl (fun j => nI (pg j))) := hM0.2.2.1
  have h53 : g 53 = .inl (k.2.1.1, 16, .inl lat) := hM0.2.2.2.1
  have h54 : g 54 = .inl (k.2.1.1, 16, .inl (fun j => nI (gar j))) := hM0.2.2.2.2.1
  have h55 : g 55 = .inl (k.2.1.1, 120, .inl (fun j => nI (T j))) := hM0.2.2.2.2.2
  obtain ⟨hplay, hrd, hn, hgar, hT, hlat⟩ := id hW
  have hu0 : 0 < u := hwf.1
  have hu : u ≤ 20 := hwf.2.1
  have hln : ∀ j, j < 20 → ln j ≤ 40 := hwf.2.2
  refine lv_aload_n hx hb dX4_type_0 rfl (lv_at hl 0 rfl) ?_
  refine lv_iconst (v := nI 0) hx hb dX4_type_1 (by decide) ?_
  refine m_put (ci := 4) (C := RX4) (T := TX4) (N' := 16) (ty := .int) hx hb hts (by decide +kernel) tyX4 tyX4_ok nmX4 hown hE hI 50 (by omega) h50 rfl 0 (by decide) (hts (.fieldLink RX4 29 "TapePrinterModel" "thrown" "I") (by decide +kernel)) rfl (by decide +kernel) rfl rfl (Nat.le_of_ble_eq_true rfl) dX4_type_2 (fun H locs hI => ?_)
  obtain ⟨g1, hg1⟩ : ∃ zz, zz = va_up g 50 (.inr (4, [.int (nI 0), .int (bI fig), .int (bI uns), .int (nI play), .int (nI u), .ref (ad 51), .ref (ad 52), .ref (ad 53), .ref (ad 54), .ref (ad 55), .int (nI n), .int (nI rd), .int (nI came), .int mis, .int lost, .int bel])) := ⟨_, rfl⟩
  replace hI : mI k ad N g1 (mA ad N s.heap.size) s H locs := by rw [hg1]; exact hI
  have m_1 : g1 50 = .inr (4, [.int (nI 0), .int (bI fig), .int (bI uns), .int (nI play), .int (nI u), .ref (ad 51), .ref (ad 52), .ref (ad 53), .ref (ad 54), .ref (ad 55), .int (nI n), .int (nI rd), .int (nI came), .int mis, .int lost, .int bel]) := by rw [hg1, va_up_self]
  have m_2 : g1 51 = .inl (k.2.1.1, 20, .inl (fun j => nI (ln j))) := by rw [hg1, va_up_ne _ _ (by omega)]; exact h51
  have m_3 : g1 52 = .inl (k.2.1.1, 800, .inl (fun j => nI (pg j))) := by rw [hg1, va_up_ne _ _ (by omega)]; exact h52
  have m_4 : g1 53 = .inl (k.2.1.1, 16, .inl lat) := by rw [hg1, va_up_ne _ _ (by omega)]; exact h53
  have m_5 : g1 54 = .inl (k.2.1.1, 16, .inl (fun j => nI (gar j))) := by rw [hg1, va_up_ne _ _ (by omega)]; exact h54
  have m_6 : g1 55 = .inl (k.2.1.1, 120, .inl (fun j => nI (T j))) := by rw [hg1, va_up_ne _ _ (by omega)]; exact h55
  refine lv_iload_n hx hb dX4_type_5 rfl (lv_at hl 1 rfl) ?_
  refine m_callSi (As := [.int p0]) (rest := []) ⟨hx, hb, hml, hown, hts⟩ hE hI (c_X4_isCharacter k l ad N g1 _ p0 ) (va_cwS 1 hts gX4_type_X4_isCharacter rfl rfl rfl (by decide +kernel) ⟨Nat.le_of_ble_eq_true rfl, Nat.le_of_ble_eq_true rfl⟩) rfl hl.1 rfl (Nat.le_of_ble_eq_true rfl) dX4_type_6 ⟨Nat.le_of_ble_eq_true rfl, Nat.le_of_ble_eq_true rfl⟩ (m_deti (fun H locs hI => ?_))
  refine m_zneB (tgt := 18) hx hb dX4_type_9 (by decide) (fun c_9 => ?_) (fun c_9 => ?_)
  · obtain ⟨j, h1j, hj, rfl⟩ := inC_ex c_9
    have hicj : inC (nI j) = true := c_9
    have htnj := tn_nI (j := j) (by omega)
    have hl : lv_has ls 4 [(0, .ref (ad 50)), (1, .int (nI j))] := hl
    refine lv_iload_n hx hb dX4_type_18 rfl (lv_at hl 1 rfl) ?_
    refine lv_bipush (v := nI 26) hx hb dX4_type_19 (by decide) ?_
    refine m_cleN (tgt := 28) hx hb (by omega) (by omega) dX4_type_21 (by decide) (fun c_21 => ?_) (fun c_21 => ?_)
    · refine lv_iconst (v := nI 0) hx hb dX4_type_28 (by decide) ?_
      have hnd : decide (26 < j) = false := decide_eq_false (by omega)
      refine m_top (show nI 0 = bI false from by decide) ?_
      refine lv_istore_n (lv' := [(2, .int (bI false)), (0, .ref (ad 50)), (1, .int (nI j))]) hx hb dX4_type_29 rfl hl (by decide) rfl (fun ls hl => ?_)
      refine lv_iload_n hx hb dX4_type_30 rfl (lv_at hl 2 rfl) ?_
      refine lv_bipush (v := nI 53) hx hb dX4_type_31 (by decide) ?_
      refine m_cgeN (tgt := 52) hx hb (by omega) (by omega) dX4_type_33 (by decide) (fun c_33 => ?_) (fun c_33 => ?_)
      · refine lv_iconst (v := nI 0) hx hb dX4_type_52 (by decide) ?_
        have htys : tyS uns T n j = false := by unfold tyS; rw [ty_dep j (by omega) h1j, decide_eq_false (by omega : ¬ j < 53)] <;> rfl
        have htyn : tyN uns T n j = 1 := by unfold tyN; rw [htys]; rfl
        refine lv_istore_n (lv' := [(3, .int (nI 0)), (2, .int (bI false)), (0, .ref (ad 50)), (1, .int (nI j))]) hx hb dX4_type_53 rfl hl (by decide) rfl (fun ls hl => ?_)
        refine lv_aload_n hx hb dX4_type_54 rfl (lv_at hl 2 rfl) ?_
        refine m_get (ci := 4) (C := RX4) (T := TX4) (N' := 16) hx hb hts (by decide +kernel) hown hE hI 50 (by omega) m_1 rfl 10 (by decide) (hts (.fieldLink RX4 109 "TapePrinterModel" "codes" "I") (by decide +kernel)) rfl dX4_type_55 ?_
        refine lv_iload_n hx hb dX4_type_58 rfl (lv_at hl 0 rfl) ?_
        refine m_zeqN (tgt := 66) hx hb (by omega) dX4_type_59 (by decide) (fun c_59 => ?_) (fun c => absurd c (by decide))
        refine lv_iconst (v := nI 1) hx hb dX4_type_66 (by decide) ?_
        refine m_iaddN hx hb dX4_type_67 ?_
        refine lv_bipush (v := nI 120) hx hb dX4_type_68 (by decide) ?_
        refine m_cleN (tgt := 79) hx hb (by omega) (by omega) dX4_type_70 (by decide) (fun c_70 => ?_) (fun c_70 => ?_)
        · refine lv_iload_n hx hb dX4_type_79 rfl (lv_at hl 0 rfl) ?_
          refine m_zeqN (tgt := 98) hx hb (by omega) dX4_type_80 (by decide) (fun c_80 => ?_) (fun c => absurd c (by decide))
          refine lv_aload_n hx hb dX4_type_98 rfl (lv_at hl 2 rfl) ?_
          refine lv_iload_n hx hb dX4_type_99 rfl (lv_at hl 3 rfl) ?_
          refine m_callSi (As := [.int (nI j)]) (rest := [.ref (ad 50)]) ⟨hx, hb, hml, hown, hts⟩ hE hI (c_X4_codeOf k l ad N g1 _ j (by omega) (by omega)) (va_cwS 1 hts gX4_type_X4_codeOf rfl rfl rfl (by decide +kernel) ⟨Nat.le_of_ble_eq_true rfl, Nat.le_of_ble_eq_true rfl⟩) rfl hl.1 rfl (Nat.le_of_ble_eq_true rfl) dX4_type_100 ⟨Nat.le_of_ble_eq_true rfl, Nat.le_of_ble_eq_true rfl⟩ (m_deti (fun H locs hI => ?_))
          refine m_callVv (As := [.int (nI (cd j))]) (rest := []) ⟨hx, hb, hml, hown, hts⟩ hE hI (c_X4_put k l ad N g1 _ 0 uns play rd n lat gar T came mis lost bel fig u ln pg (cd j) (by omega) hW hwf (by omega) ⟨m_1, m_2, m_3, m_4, m_5, m_6⟩ (by omega)) (cwV 1 hts gX4_type_X4_put rfl rfl rfl (by decide +kernel) ⟨Nat.le_of_ble_eq_true rfl, Nat.le_of_ble_eq_true rfl⟩) (i := 50) (by omega) m_1 rfl rfl hl.1 rfl (Nat.le_of_ble_eq_true rfl) dX4_type_103 ⟨Nat.le_of_ble_eq_true rfl, Nat.le_of_ble_eq_true rfl⟩ (m_detv (fun H locs hI => ?_))
          obtain ⟨g2, hg2⟩ : ∃ zz, zz = va_up (va_up g1 55 (.inl (k.2.1.1, 120, .inl (fun i9 => nI (va_up T n (cd j) i9))))) 50 (.inr (4, [.int (nI 0), .int (bI fig), .int (bI uns), .int (nI play), .int (nI u), .ref (ad 51), .ref (ad 52), .ref (ad 53), .ref (ad 54), .ref (ad 55), .int (nI (n + 1)), .int (nI rd), .int (nI came), .int mis, .int lost, .int bel])) := ⟨_, rfl⟩
          replace hI : mI k ad N g2 (mA ad N s.heap.size) s H locs := by rw [hg2]; exact hI
          have m_7 : g2 50 = .inr (4, [.int (nI 0), .int (bI fig), .int (bI uns), .int (nI play), .int (nI u), .ref (ad 51), .ref (ad 52), .ref (ad 53), .ref (ad 54), .ref (ad 55), .int (nI (n + 1)), .int (nI rd), .int (nI came), .int mis, .int lost, .int bel]) := by rw [hg2, va_up_self]
          have m_8 : g2 51 = .inl (k.2.1.1, 20, .inl (fun j => nI (ln j))) := by rw [hg2, va_up_ne _ _ (by omega), va_up_ne _ _ (by omega)]; exact m_2
          have m_9 : g2 52 = .inl (k.2.1.1, 800, .inl (fun j => nI (pg j))) := by rw [hg2, va_up_ne _ _ (by omega), va_up_ne _ _ (by omega)]; exact m_3
          have m_10 : g2 53 = .inl (k.2.1.1, 16, .inl lat) := by rw [hg2, va_up_ne _ _ (by omega), va_up_ne _ _ (by omega)]; exact m_4
          have m_11 : g2 54 = .inl (k.2.1.1, 16, .inl (fun j => nI (gar j))) := by rw [hg2, va_up_ne _ _ (by omega), va_up_ne _ _ (by omega)]; exact m_5
          have m_12 : g2 55 = .inl (k.2.1.1, 120, .inl (fun i9 => nI (va_up T n (cd j) i9))) := by rw [hg2, va_up_ne _ _ (by omega), va_up_self]
          have hW9 : CW play rd (n + 1) lat gar (va_up T n (cd j)) := CW.punch hW (by omega) (by first | omega | exact cd_lt _ (by omega))
          refine lv_iload_n hx hb dX4_type_106 rfl (lv_at hl 0 rfl) ?_
          refine m_zeqN (tgt := 114) hx hb (by omega) dX4_type_107 (by decide) (fun c_107 => ?_) (fun c => absurd c (by decide))
          refine lv_iconst (v := nI 1) hx hb dX4_type_114 (by decide) ?_
          have htyt : tyT uns T n j = va_up T n (cd j) := by unfold tyT; rw [htys]; rfl
          exact m_iret hx hb hr hlocks hI (⟨Or.inl (⟨⟨c_9, by rw [htnj, htyn]; omega⟩, by rw [htnj, htyn], by rw [htnj, htyn, htyt]; exact ⟨m_7, m_8, m_9, m_10, m_11, m_12⟩⟩), fun i hi => by rw [hg2, va_up_ne _ _ (by omega), va_up_ne _ _ (by omega), hg1, va_up_ne _ _ (by omega)]⟩) dX4_type_115
        · refine lv_aload_n hx hb dX4_type_73 rfl (lv_at hl 2 rfl) ?_
          refine lv_iconst (v := nI 2) hx hb dX4_type_74 (by decide) ?_
          refine m_callVi (As := [.int (nI 2)]) (rest := []) ⟨hx, hb, hml, hown, hts⟩ hE hI (c_X4_fail k l ad N g1 _ 0 uns play rd n lat gar T came mis lost bel fig u ln pg 2 (by omega) hW hwf (by omega) ⟨m_1, m_2, m_3, m_4, m_5, m_6⟩ ) (cwV 1 hts gX4_type_X4_fail rfl rfl rfl (by decide +kernel) ⟨Nat.le_of_ble_eq_true rfl, Nat.le_of_ble_eq_true rfl⟩) (i := 50) (by omega) m_1 rfl rfl hl.1 rfl (Nat.le_of_ble_eq_true rfl) dX4_type_75 ⟨Nat.le_of_ble_eq_true rfl, Nat.le_of_ble_eq_true rfl⟩ (m_deti (fun H locs hI => ?_))
          obtain ⟨g3, hg3⟩ : ∃ zz, zz = va_up g1 50 (.inr (4, [.int (nI 2), .int (bI fig), .int (bI uns), .int (nI play), .int (nI u), .ref (ad 51), .ref (ad 52), .ref (ad 53), .ref (ad 54), .ref (ad 55), .int (nI n), .int (nI rd), .int (nI came), .int mis, .int lost, .int bel])) := ⟨_, rfl⟩
          replace hI : mI k ad N g3 (mA ad N s.heap.size) s H locs := by rw [hg3]; exact hI
          have m_13 : g3 50 = .inr (4, [.int (nI 2), .int (bI fig), .int (bI uns), .int (nI play), .int (nI u), .ref (ad 51), .ref (ad 52), .ref (ad 53), .ref (ad 54), .ref (ad 55), .int (nI n), .int (nI rd), .int (nI came), .int mis, .int lost, .int bel]) := by rw [hg3, va_up_self]
          have m_14 : g3 51 = .inl (k.2.1.1, 20, .inl (fun j => nI (ln j))) := by rw [hg3, va_up_ne _ _ (by omega)]; exact m_2
          have m_15 : g3 52 = .inl (k.2.1.1, 800, .inl (fun j => nI (pg j))) := by rw [hg3, va_up_ne _ _ (by omega)]; exact m_3
          have m_16 : g3 53 = .inl (k.2.1.1, 16, .inl lat) := by rw [hg3, va_up_ne _ _ (by omega)]; exact m_4
          have m_17 : g3 54 = .inl (k.2.1.1, 16, .inl (fun j => nI (gar j))) := by rw [hg3, va_up_ne _ _ (by omega)]; exact m_5
          have m_18 : g3 55 = .inl (k.2.1.1, 120, .inl (fun j => nI (T j))) := by rw [hg3, va_up_ne _ _ (by omega)]; exact m_6
          exact m_iret hx hb hr hlocks hI (⟨Or.inr (Or.inr (⟨⟨c_9, by rw [htnj, htyn]; omega⟩, ⟨m_13, m_14, m_15, m_16, m_17, m_18⟩⟩)), fun i hi => by rw [hg3, va_up_ne _ _ (by omega), hg1, va_up_ne _ _ (by omega)]⟩) dX4_type_78
      · refine lv_iload_n hx hb dX4_type_36 rfl (lv_at hl 0 rfl) ?_
        refine lv_aload_n hx hb dX4_type_37 rfl (lv_at hl 1 rfl) ?_
        refine lv_aload_n hx hb dX4_type_38 rfl (lv_at hl 1 rfl) ?_
        refine m_get (ci := 4) (C := RX4) (T := TX4) (N' := 16) hx hb hts (by decide +kernel) hown hE hI 50 (by omega) m_1 rfl 10 (by decide) (hts (.fieldLink RX4 109 "TapePrinterModel" "codes" "I") (by decide +kernel)) rfl dX4_type_39 ?_
        refine m_callVi (As := [.int (nI n)]) (rest := [.int (bI false)]) ⟨hx, hb, hml, hown, hts⟩ hE hI (c_X4_shiftAt k l ad N g1 _ 0 uns play rd n lat gar T came mis lost bel fig u ln pg n (by omega) hW hwf (by omega) ⟨m_1, m_2, m_3, m_4, m_5, m_6⟩ (by omega)) (cwV 1 hts gX4_type_X4_shiftAt rfl rfl rfl (by decide +kernel) ⟨Nat.le_of_ble_eq_true rfl, Nat.le_of_ble_eq_true rfl⟩) (i := 50) (by omega) m_1 rfl rfl hl.1 rfl (Nat.le_of_ble_eq_true rfl) dX4_type_42 ⟨Nat.le_of_ble_eq_true rfl, Nat.le_of_ble_eq_true rfl⟩ (m_deti (fun H locs hI => ?_))
        refine m_ceqB (tgt := 52) hx hb dX4_type_45 (by decide) (fun c_45 => ?_) (fun c_45 => ?_)
        · refine lv_iconst (v := nI 0) hx hb dX4_type_52 (by decide) ?_
          have htys : tyS uns T n j = false := by unfold tyS; rw [ty_dep j (by omega) h1j, ty_fig c_33, hnd, decide_eq_true c_33]; rw [← c_45]; first | rfl | simp
          have htyn : tyN uns T n j = 1 := by unfold tyN; rw [htys]; rfl
          refine lv_istore_n (lv' := [(3, .int (nI 0)), (2, .int (bI false)), (0, .ref (ad 50)), (1, .int (nI j))]) hx hb dX4_type_53 rfl hl (by decide) rfl (fun ls hl => ?_)
          refine lv_aload_n hx hb dX4_type_54 rfl (lv_at hl 2 rfl) ?_
          refine m_get (ci := 4) (C := RX4) (T := TX4) (N' := 16) hx hb hts (by decide +kernel) hown hE hI 50 (by omega) m_1 rfl 10 (by decide) (hts (.fieldLink RX4 109 "TapePrinterModel" "codes" "I") (by decide +kernel)) rfl dX4_type_55 ?_
          refine lv_iload_n hx hb dX4_type_58 rfl (lv_at hl 0 rfl) ?_
          refine m_zeqN (tgt := 66) hx hb (by omega) dX4_type_59 (by decide) (fun c_59 => ?_) (fun c => absurd c (by decide))
          refine lv_iconst (v := nI 1) hx hb dX4_type_66 (by decide) ?_
          refine m_iaddN hx hb dX4_type_67 ?_
          refine lv_bipush (v := nI 120) hx hb dX4_type_68 (by decide) ?_
          refine m_cleN (tgt := 79) hx hb (by omega) (by omega) dX4_type_70 (by decide) (fun c_70 => ?_) (fun c_70 => ?_)
          · refine lv_iload_n hx hb dX4_type_79 rfl (lv_at hl 0 rfl) ?_
            refine m_zeqN (tgt := 98) hx hb (by omega) dX4_type_80 (by decide) (fun c_80 => ?_) (fun c => absurd c (by decide))
            refine lv_aload_n hx hb dX4_type_98 rfl (lv_at hl 2 rfl) ?_
            refine lv_iload_n hx hb dX4_type_99 rfl (lv_at hl 3 rfl) ?_
            refine m_callSi (As := [.int (nI j)]) (rest := [.ref (ad 50)]) ⟨hx, hb, hml, hown, hts⟩ hE hI (c_X4_codeOf k l ad N g1 _ j (by omega) (by omega)) (va_cwS 1 hts gX4_type_X4_codeOf rfl rfl rfl (by decide +kernel) ⟨Nat.le_of_ble_eq_true rfl, Nat.le_of_ble_eq_true rfl⟩) rfl hl.1 rfl (Nat.le_of_ble_eq_true rfl) dX4_type_100 ⟨Nat.le_of_ble_eq_true rfl, Nat.le_of_ble_eq_true rfl⟩ (m_deti (fun H locs hI => ?_))
            refine m_callVv (As := [.int (nI (cd j))]) (rest := []) ⟨hx, hb, hml, hown, hts⟩ hE hI (c_X4_put k l ad N g1 _ 0 uns play rd n lat gar T came mis lost bel fig u ln pg (cd j) (by omega) hW hwf (by omega) ⟨m_1, m_2, m_3, m_4, m_5, m_6⟩ (by omega)) (cwV 1 hts gX4_type_X4_put rfl rfl rfl (by decide +kernel) ⟨Nat.le_of_ble_eq_true rfl, Nat.le_of_ble_eq_true rfl⟩) (i := 50) (by omega) m_1 rfl rfl hl.1 rfl (Nat.le_of_ble_eq_true rfl) dX4_type_103 ⟨Nat.le_of_ble_eq_true rfl, Nat.le_of_ble_eq_true rfl⟩ (m_detv (fun H locs hI => ?_))
            obtain ⟨g4, hg4⟩ : ∃ zz, zz = va_up (va_up g1 55 (.inl (k.2.1.1, 120, .inl (fun i9 => nI (va_up T n (cd j) i9))))) 50 (.inr (4, [.int (nI 0), .int (bI fig), .int (bI uns), .int (nI play), .int (nI u), .ref (ad 51), .ref (ad 52), .ref (ad 53), .ref (ad 54), .ref (ad 55), .int (nI (n + 1)), .int (nI rd), .int (nI came), .int mis, .int lost, .int bel])) := ⟨_, rfl⟩
            replace hI : mI k ad N g4 (mA ad N s.heap.size) s H locs := by rw [hg4]; exact hI
            have m_19 : g4 50 = .inr (4, [.int (nI 0), .int (bI fig), .int (bI uns), .int (nI play), .int (nI u), .ref (ad 51), .ref (ad 52), .ref (ad 53), .ref (ad 54), .ref (ad 55), .int (nI (n + 1)), .int (nI rd), .int (nI came), .int mis, .int lost, .int bel]) := by rw [hg4, va_up_self]
            have m_20 : g4 51 = .inl (k.2.1.1, 20, .inl (fun j => nI (ln j))) := by rw [hg4, va_up_ne _ _ (by omega), va_up_ne _ _ (by omega)]; exact m_2
            have m_21 : g4 52 = .inl (k.2.1.1, 800, .inl (fun j => nI (pg j))) := by rw [hg4, va_up_ne _ _ (by omega), va_up_ne _ _ (by omega)]; exact m_3
            have m_22 : g4 53 = .inl (k.2.1.1, 16, .inl lat) := by rw [hg4, va_up_ne _ _ (by omega), va_up_ne _ _ (by omega)]; exact m_4
            have m_23 : g4 54 = .inl (k.2.1.1, 16, .inl (fun j => nI (gar j))) := by rw [hg4, va_up_ne _ _ (by omega), va_up_ne _ _ (by omega)]; exact m_5
            have m_24 : g4 55 = .inl (k.2.1.1, 120, .inl (fun i9 => nI (va_up T n (cd j) i9))) := by rw [hg4, va_up_ne _ _ (by omega), va_up_self]
            have hW9 : CW play rd (n + 1) lat gar (va_up T n (cd j)) := CW.punch hW (by omega) (by first | omega | exact cd_lt _ (by omega))
            refine lv_iload_n hx hb dX4_type_106 rfl (lv_at hl 0 rfl) ?_
            refine m_zeqN (tgt := 114) hx hb (by omega) dX4_type_107 (by decide) (fun c_107 => ?_) (fun c => absurd c (by decide))
            refine lv_iconst (v := nI 1) hx hb dX4_type_114 (by decide) ?_
            have htyt : tyT uns T n j = va_up T n (cd j) := by unfold tyT; rw [htys]; rfl
            exact m_iret hx hb hr hlocks hI (⟨Or.inl (⟨⟨c_9, by rw [htnj, htyn]; omega⟩, by rw [htnj, htyn], by rw [htnj, htyn, htyt]; exact ⟨m_19, m_20, m_21, m_22, m_23, m_24⟩⟩), fun i hi => by rw [hg4, va_up_ne _ _ (by omega), va_up_ne _ _ (by omega), hg1, va_up_ne _ _ (by omega)]⟩) dX4_type_115
          · refine lv_aload_n hx hb dX4_type_73 rfl (lv_at hl 2 rfl) ?_
            refine lv_iconst (v := nI 2) hx hb dX4_type_74 (by decide) ?_
            refine m_callVi (As := [.int (nI 2)]) (rest := []) ⟨hx, hb, hml, hown, hts⟩ hE hI (c_X4_fail k l ad N g1 _ 0 uns play rd n lat gar T came mis lost bel fig u ln pg 2 (by omega) hW hwf (by omega) ⟨m_1, m_2, m_3, m_4, m_5, m_6⟩ ) (cwV 1 hts gX4_type_X4_fail rfl rfl rfl (by decide +kernel) ⟨Nat.le_of_ble_eq_true rfl, Nat.le_of_ble_eq_true rfl⟩) (i := 50) (by omega) m_1 rfl rfl hl.1 rfl (Nat.le_of_ble_eq_true rfl) dX4_type_75 ⟨Nat.le_of_ble_eq_true rfl, Nat.le_of_ble_eq_true rfl⟩ (m_deti (fun H locs hI => ?_))
            obtain ⟨g5, hg5⟩ : ∃ zz, zz = va_up g1 50 (.inr (4, [.int (nI 2), .int (bI fig), .int (bI uns), .int (nI play), .int (nI u), .ref (ad 51), .ref (ad 52), .ref (ad 53), .ref (ad 54), .ref (ad 55), .int (nI n), .int (nI rd), .int (nI came), .int mis, .int lost, .int bel])) := ⟨_, rfl⟩
            replace hI : mI k ad N g5 (mA ad N s.heap.size) s H locs := by rw [hg5]; exact hI
            have m_25 : g5 50 = .inr (4, [.int (nI 2), .int (bI fig), .int (bI uns), .int (nI play), .int (nI u), .ref (ad 51), .ref (ad 52), .ref (ad 53), .ref (ad 54), .ref (ad 55), .int (nI n), .int (nI rd), .int (nI came), .int mis, .int lost, .int bel]) := by rw [hg5, va_up_self]
            have m_26 : g5 51 = .inl (k.2.1.1, 20, .inl (fun j => nI (ln j))) := by rw [hg5, va_up_ne _ _ (by omega)]; exact m_2
            have m_27 : g5 52 = .inl (k.2.1.1, 800, .inl (fun j => nI (pg j))) := by rw [hg5, va_up_ne _ _ (by omega)]; exact m_3
            have m_28 : g5 53 = .inl (k.2.1.1, 16, .inl lat) := by rw [hg5, va_up_ne _ _ (by omega)]; exact m_4
            have m_29 : g5 54 = .inl (k.2.1.1, 16, .inl (fun j => nI (gar j))) := by rw [hg5, va_up_ne _ _ (by omega)]; exact m_5
            have m_30 : g5 55 = .inl (k.2.1.1, 120, .inl (fun j => nI (T j))) := by rw [hg5, va_up_ne _ _ (by omega)]; exact m_6
            exact m_iret hx hb hr hlocks hI (⟨Or.inr (Or.inr (⟨⟨c_9, by rw [htnj, htyn]; omega⟩, ⟨m_25, m_26, m_27, m_28, m_29, m_30⟩⟩)), fun i hi => by rw [hg5, va_up_ne _ _ (by omega), hg1, va_up_ne _ _ (by omega)]⟩) dX4_type_78
        · refine lv_iconst (v := nI 1) hx hb dX4_type_48 (by decide) ?_
          refine lv_goto (tgt := 53) hx hb dX4_type_49 (by decide) ?_
          have htys : tyS uns T n j = true := by unfold tyS; rw [ty_dep j (by omega) h1j, ty_fig c_33, hnd, decide_eq_true c_33]; rw [Bool.true_and]; exact bne_iff_ne.mpr c_45
          have htyn : tyN uns T n j = 2 := by unfold tyN; rw [htys]; rfl
          refine lv_istore_n (lv' := [(3, .int (nI 1)), (2, .int (bI false)), (0, .ref (ad 50)), (1, .int (nI j))]) hx hb dX4_type_53 rfl hl (by decide) rfl (fun ls hl => ?_)
          refine lv_aload_n hx hb dX4_type_54 rfl (lv_at hl 2 rfl) ?_
          refine m_get (ci := 4) (C := RX4) (T := TX4) (N' := 16) hx hb hts (by decide +kernel) hown hE hI 50 (by omega) m_1 rfl 10 (by decide) (hts (.fieldLink RX4 109 "TapePrinterModel" "codes" "I") (by decide +kernel)) rfl dX4_type_55 ?_
          refine lv_iload_n hx hb dX4_type_58 rfl (lv_at hl 0 rfl) ?_
          refine m_zeqN (tgt := 66) hx hb (by omega) dX4_type_59 (by decide) (fun c => absurd c (by decide)) (fun c_59 => ?_)
          refine lv_iconst (v := nI 2) hx hb dX4_type_62 (by decide) ?_
          refine lv_goto (tgt := 67) hx hb dX4_type_63 (by decide) ?_
          refine m_iaddN hx hb dX4_type_67 ?_
          refine lv_bipush (v := nI 120) hx hb dX4_type_68 (by decide) ?_
          refine m_cleN (tgt := 79) hx hb (by omega) (by omega) dX4_type_70 (by decide) (fun c_70 => ?_) (fun c_70 => ?_)
          · refine lv_iload_n hx hb dX4_type_79 rfl (lv_at hl 0 rfl) ?_
            refine m_zeqN (tgt := 98) hx hb (by omega) dX4_type_80 (by decide) (fun c => absurd c (by decide)) (fun c_80 => ?_)
            refine lv_aload_n hx hb dX4_type_83 rfl (lv_at hl 2 rfl) ?_
            refine lv_iload_n hx hb dX4_type_84 rfl (lv_at hl 1 rfl) ?_
            refine m_zeqB (tgt := 93) hx hb dX4_type_85 (by decide) (fun c_85 => ?_) (fun c => absurd c (by decide))
            refine lv_bipush (v := nI 31) hx hb dX4_type_93 (by decide) ?_
            refine m_callVv (As := [.int (nI 31)]) (rest := []) ⟨hx, hb, hml, hown, hts⟩ hE hI (c_X4_put k l ad N g1 _ 0 uns play rd n lat gar T came mis lost bel fig u ln pg 31 (by omega) hW hwf (by omega) ⟨m_1, m_2, m_3, m_4, m_5, m_6⟩ (by omega)) (cwV 1 hts gX4_type_X4_put rfl rfl rfl (by decide +kernel) ⟨Nat.le_of_ble_eq_true rfl, Nat.le_of_ble_eq_true rfl⟩) (i := 50) (by omega) m_1 rfl rfl hl.1 rfl (Nat.le_of_ble_eq_true rfl) dX4_type_95 ⟨Nat.le_of_ble_eq_true rfl, Nat.le_of_ble_eq_true rfl⟩ (m_detv (fun H locs hI => ?_))
            obtain ⟨g6, hg6⟩ : ∃ zz, zz = va_up (va_up g1 55 (.inl (k.2.1.1, 120, .inl (fun i9 => nI (va_up T n 31 i9))))) 50 (.inr (4, [.int (nI 0), .int (bI fig), .int (bI uns), .int (nI play), .int (nI u), .ref (ad 51), .ref (ad 52), .ref (ad 53), .ref (ad 54), .ref (ad 55), .int (nI (n + 1)), .int (nI rd), .int (nI came), .int mis, .int lost, .int bel])) := ⟨_, rfl⟩
            replace hI : mI k ad N g6 (mA ad N s.heap.size) s H locs := by rw [hg6]; exact hI
            have m_31 : g6 50 = .inr (4, [.int (nI 0), .int (bI fig), .int (bI uns), .int (nI play), .int (nI u), .ref (ad 51), .ref (ad 52), .ref (ad 53), .ref (ad 54), .ref (ad 55), .int (nI (n + 1)), .int (nI rd), .int (nI came), .int mis, .int lost, .int bel]) := by rw [hg6, va_up_self]
            have m_32 : g6 51 = .inl (k.2.1.1, 20, .inl (fun j => nI (ln j))) := by rw [hg6, va_up_ne _ _ (by omega), va_up_ne _ _ (by omega)]; exact m_2
            have m_33 : g6 52 = .inl (k.2.1.1, 800, .inl (fun j => nI (pg j))) := by rw [hg6, va_up_ne _ _ (by omega), va_up_ne _ _ (by omega)]; exact m_3
            have m_34 : g6 53 = .inl (k.2.1.1, 16, .inl lat) := by rw [hg6, va_up_ne _ _ (by omega), va_up_ne _ _ (by omega)]; exact m_4
            have m_35 : g6 54 = .inl (k.2.1.1, 16, .inl (fun j => nI (gar j))) := by rw [hg6, va_up_ne _ _ (by omega), va_up_ne _ _ (by omega)]; exact m_5
            have m_36 : g6 55 = .inl (k.2.1.1, 120, .inl (fun i9 => nI (va_up T n 31 i9))) := by rw [hg6, va_up_ne _ _ (by omega), va_up_self]
            have hW9 : CW play rd (n + 1) lat gar (va_up T n 31) := CW.punch hW (by omega) (by first | omega | exact cd_lt _ (by omega))
            refine lv_aload_n hx hb dX4_type_98 rfl (lv_at hl 2 rfl) ?_
            refine lv_iload_n hx hb dX4_type_99 rfl (lv_at hl 3 rfl) ?_
            refine m_callSi (As := [.int (nI j)]) (rest := [.ref (ad 50)]) ⟨hx, hb, hml, hown, hts⟩ hE hI (c_X4_codeOf k l ad N g6 _ j (by omega) (by omega)) (va_cwS 1 hts gX4_type_X4_codeOf rfl rfl rfl (by decide +kernel) ⟨Nat.le_of_ble_eq_true rfl, Nat.le_of_ble_eq_true rfl⟩) rfl hl.1 rfl (Nat.le_of_ble_eq_true rfl) dX4_type_100 ⟨Nat.le_of_ble_eq_true rfl, Nat.le_of_ble_eq_true rfl⟩ (m_deti (fun H locs hI => ?_))
            refine m_callVv (As := [.int (nI (cd j))]) (rest := []) ⟨hx, hb, hml, hown, hts⟩ hE hI (c_X4_put k l ad N g6 _ 0 uns play rd (n + 1) lat gar (va_up T n 31) came mis lost bel fig u ln pg (cd j) (by omega) hW9 hwf (by omega) ⟨m_31, m_32, m_33, m_34, m_35, m_36⟩ (by omega)) (cwV 1 hts gX4_type_X4_put rfl rfl rfl (by decide +kernel) ⟨Nat.le_of_ble_eq_true rfl, Nat.le_of_ble_eq_true rfl⟩) (i := 50) (by omega) m_31 rfl rfl hl.1 rfl (Nat.le_of_ble_eq_true rfl) dX4_type_103 ⟨Nat.le_of_ble_eq_true rfl, Nat.le_of_ble_eq_true rfl⟩ (m_detv (fun H locs hI => ?_))
            obtain ⟨g7, hg7⟩ : ∃ zz, zz = va_up (va_up g6 55 (.inl (k.2.1.1, 120, .inl (fun i9 => nI (va_up (va_up T n 31) (n + 1) (cd j) i9))))) 50 (.inr (4, [.int (nI 0), .int (bI fig), .int (bI uns), .int (nI play), .int (nI u), .ref (ad 51), .ref (ad 52), .ref (ad 53), .ref (ad 54), .ref (ad 55), .int (nI ((n + 1) + 1)), .int (nI rd), .int (nI came), .int mis, .int lost, .int bel])) := ⟨_, rfl⟩
            replace hI : mI k ad N g7 (mA ad N s.heap.size) s H locs := by rw [hg7]; exact hI
            have m_37 : g7 50 = .inr (4, [.int (nI 0), .int (bI fig), .int (bI uns), .int (nI play), .int (nI u), .ref (ad 51), .ref (ad 52), .ref (ad 53), .ref (ad 54), .ref (ad 55), .int (nI ((n + 1) + 1)), .int (nI rd), .int (nI came), .int mis, .int lost, .int bel]) := by rw [hg7, va_up_self]
            have m_38 : g7 51 = .inl (k.2.1.1, 20, .inl (fun j => nI (ln j))) := by rw [hg7, va_up_ne _ _ (by omega), va_up_ne _ _ (by omega)]; exact m_32
            have m_39 : g7 52 = .inl (k.2.1.1, 800, .inl (fun j => nI (pg j))) := by rw [hg7, va_up_ne _ _ (by omega), va_up_ne _ _ (by omega)]; exact m_33
            have m_40 : g7 53 = .inl (k.2.1.1, 16, .inl lat) := by rw [hg7, va_up_ne _ _ (by omega), va_up_ne _ _ (by omega)]; exact m_34
            have m_41 : g7 54 = .inl (k.2.1.1, 16, .inl (fun j => nI (gar j))) := by rw [hg7, va_up_ne _ _ (by omega), va_up_ne _ _ (by omega)]; exact m_35
            have m_42 : g7 55 = .inl (k.2.1.1, 120, .inl (fun i9 => nI (va_up (va_up T n 31) (n + 1) (cd j) i9))) := by rw [hg7, va_up_ne _ _ (by omega), va_up_self]
            have hW9 : CW play rd ((n + 1) + 1) lat gar (va_up (va_up T n 31) (n + 1) (cd j)) := CW.punch hW9 (by omega) (by first | omega | exact cd_lt _ (by omega))
            refine lv_iload_n hx hb dX4_type_106 rfl (lv_at hl 0 rfl) ?_
            refine m_zeqN (tgt := 114) hx hb (by omega) dX4_type_107 (by decide) (fun c => absurd c (by decide)) (fun c_107 => ?_)
            refine lv_iconst (v := nI 2) hx hb dX4_type_110 (by decide) ?_
            refine lv_goto (tgt := 115) hx hb dX4_type_111 (by decide) ?_
            have htyt : tyT uns T n j = va_up (va_up T n 31) (n + 1) (cd j) := by unfold tyT; rw [htys, ty_fig (by omega), hnd]; rfl
            exact m_iret hx hb hr hlocks hI (⟨Or.inl (⟨⟨c_9, by rw [htnj, htyn]; omega⟩, by rw [htnj, htyn], by rw [htnj, htyn, htyt]; exact ⟨m_37, m_38, m_39, m_40, m_41, m_42⟩⟩), fun i hi => by rw [hg7, va_up_ne _ _ (by omega), va_up_ne _ _ (by omega), hg6, va_up_ne _ _ (by omega), va_up_ne _ _ (by omega), hg1, va_up_ne _ _ (by omega)]⟩) dX4_type_115
          · refine lv_aload_n hx hb dX4_type_73 rfl (lv_at hl 2 rfl) ?_
            refine lv_iconst (v := nI 2) hx hb dX4_type_74 (by decide) ?_
            refine m_callVi (As := [.int (nI 2)]) (rest := []) ⟨hx, hb, hml, hown, hts⟩ hE hI (c_X4_fail k l ad N g1 _ 0 uns play rd n lat gar T came mis lost bel fig u ln pg 2 (by omega) hW hwf (by omega) ⟨m_1, m_2, m_3, m_4, m_5, m_6⟩ ) (cwV 1 hts gX4_type_X4_fail rfl rfl rfl (by decide +kernel) ⟨Nat.le_of_ble_eq_true rfl, Nat.le_of_ble_eq_true rfl⟩) (i := 50) (by omega) m_1 rfl rfl hl.1 rfl (Nat.le_of_ble_eq_true rfl) dX4_type_75 ⟨Nat.le_of_ble_eq_true rfl, Nat.le_of_ble_eq_true rfl⟩ (m_deti (fun H locs hI => ?_))
            obtain ⟨g8, hg8⟩ : ∃ zz, zz = va_up g1 50 (.inr (4, [.int (nI 2), .int (bI fig), .int (bI uns), .int (nI play), .int (nI u), .ref (ad 51), .ref (ad 52), .ref (ad 53), .ref (ad 54), .ref (ad 55), .int (nI n), .int (nI rd), .int (nI came), .int mis, .int lost, .int bel])) := ⟨_, rfl⟩
            replace hI : mI k ad N g8 (mA ad N s.heap.size) s H locs := by rw [hg8]; exact hI
            have m_43 : g8 50 = .inr (4, [.int (nI 2), .int (bI fig), .int (bI uns), .int (nI play), .int (nI u), .ref (ad 51), .ref (ad 52), .ref (ad 53), .ref (ad 54), .ref (ad 55), .int (nI n), .int (nI rd), .int (nI came), .int mis, .int lost, .int bel]) := by rw [hg8, va_up_self]
            have m_44 : g8 51 = .inl (k.2.1.1, 20, .inl (fun j => nI (ln j))) := by rw [hg8, va_up_ne _ _ (by omega)]; exact m_2
            have m_45 : g8 52 = .inl (k.2.1.1, 800, .inl (fun j => nI (pg j))) := by rw [hg8, va_up_ne _ _ (by omega)]; exact m_3
            have m_46 : g8 53 = .inl (k.2.1.1, 16, .inl lat) := by rw [hg8, va_up_ne _ _ (by omega)]; exact m_4
            have m_47 : g8 54 = .inl (k.2.1.1, 16, .inl (fun j => nI (gar j))) := by rw [hg8, va_up_ne _ _ (by omega)]; exact m_5
            have m_48 : g8 55 = .inl (k.2.1.1, 120, .inl (fun j => nI (T j))) := by rw [hg8, va_up_ne _ _ (by omega)]; exact m_6
            exact m_iret hx hb hr hlocks hI (⟨Or.inr (Or.inr (⟨⟨c_9, by rw [htnj, htyn]; omega⟩, ⟨m_43, m_44, m_45, m_46, m_47, m_48⟩⟩)), fun i hi => by rw [hg8, va_up_ne _ _ (by omega), hg1, va_up_ne _ _ (by omega)]⟩) dX4_type_78
    · refine lv_iconst (v := nI 1) hx hb dX4_type_24 (by decide) ?_
      refine lv_goto (tgt := 29) hx hb dX4_type_25 (by decide) ?_
      have hnd : decide (26 < j) = true := decide_eq_true (by omega)
      refine m_top (show nI 1 = bI true from by decide) ?_
      refine lv_istore_n (lv' := [(2, .int (bI true)), (0, .ref (ad 50)), (1, .int (nI j))]) hx hb dX4_type_29 rfl hl (by decide) rfl (fun ls hl => ?_)
      refine lv_iload_n hx hb dX4_type_30 rfl (lv_at hl 2 rfl) ?_
      refine lv_bipush (v := nI 53) hx hb dX4_type_31 (by decide) ?_
      refine m_cgeN (tgt := 52) hx hb (by omega) (by omega) dX4_type_33 (by decide) (fun c_33 => ?_) (fun c_33 => ?_)
      · refine lv_iconst (v := nI 0) hx hb dX4_type_52 (by decide) ?_
        have htys : tyS uns T n j = false := by unfold tyS; rw [ty_dep j (by omega) h1j, decide_eq_false (by omega : ¬ j < 53)] <;> rfl
        have htyn : tyN uns T n j = 1 := by unfold tyN; rw [htys]; rfl
        refine lv_istore_n (lv' := [(3, .int (nI 0)), (2, .int (bI true)), (0, .ref (ad 50)), (1, .int (nI j))]) hx hb dX4_type_53 rfl hl (by decide) rfl (fun ls hl => ?_)
        refine lv_aload_n hx hb dX4_type_54 rfl (lv_at hl 2 rfl) ?_
        refine m_get (ci := 4) (C := RX4) (T := TX4) (N' := 16) hx hb hts (by decide +kernel) hown hE hI 50 (by omega) m_1 rfl 10 (by decide) (hts (.fieldLink RX4 109 "TapePrinterModel" "codes" "I") (by decide +kernel)) rfl dX4_type_55 ?_
        refine lv_iload_n hx hb dX4_type_58 rfl (lv_at hl 0 rfl) ?_
        refine m_zeqN (tgt := 66) hx hb (by omega) dX4_type_59 (by decide) (fun c_59 => ?_) (fun c => absurd c (by decide))
        refine lv_iconst (v := nI 1) hx hb dX4_type_66 (by decide) ?_
        refine m_iaddN hx hb dX4_type_67 ?_
        refine lv_bipush (v := nI 120) hx hb dX4_type_68 (by decide) ?_
        refine m_cleN (tgt := 79) hx hb (by omega) (by omega) dX4_type_70 (by decide) (fun c_70 => ?_) (fun c_70 => ?_)
        · refine lv_iload_n hx hb dX4_type_79 rfl (lv_at hl 0 rfl) ?_
          refine m_zeqN (tgt := 98) hx hb (by omega) dX4_type_80 (by decide) (fun c_80 => ?_) (fun c => absurd c (by decide))
          refine lv_aload_n hx hb dX4_type_98 rfl (lv_at hl 2 rfl) ?_
          refine lv_iload_n hx hb dX4_type_99 rfl (lv_at hl 3 rfl) ?_
          refine m_callSi (As := [.int (nI j)]) (rest := [.ref (ad 50)]) ⟨hx, hb, hml, hown, hts⟩ hE hI (c_X4_codeOf k l ad N g1 _ j (by omega) (by omega)) (va_cwS 1 hts gX4_type_X4_codeOf rfl rfl rfl (by decide +kernel) ⟨Nat.le_of_ble_eq_true rfl, Nat.le_of_ble_eq_true rfl⟩) rfl hl.1 rfl (Nat.le_of_ble_eq_true rfl) dX4_type_100 ⟨Nat.le_of_ble_eq_true rfl, Nat.le_of_ble_eq_true rfl⟩ (m_deti (fun H locs hI => ?_))
          refine m_callVv (As := [.int (nI (cd j))]) (rest := []) ⟨hx, hb, hml, hown, hts⟩ hE hI (c_X4_put k l ad N g1 _ 0 uns play rd n lat gar T came mis lost bel fig u ln pg (cd j) (by omega) hW hwf (by omega) ⟨m_1, m_2, m_3, m_4, m_5, m_6⟩ (by omega)) (cwV 1 hts gX4_type_X4_put rfl rfl rfl (by decide +kernel) ⟨Nat.le_of_ble_eq_true rfl, Nat.le_of_ble_eq_true rfl⟩) (i := 50) (by omega) m_1 rfl rfl hl.1 rfl (Nat.le_of_ble_eq_true rfl) dX4_type_103 ⟨Nat.le_of_ble_eq_true rfl, Nat.le_of_ble_eq_true rfl⟩ (m_detv (fun H locs hI => ?_))
          obtain ⟨g9, hg9⟩ : ∃ zz, zz = va_up (va_up g1 55 (.inl (k.2.1.1, 120, .inl (fun i9 => nI (va_up T n (cd j) i9))))) 50 (.inr (4, [.int (nI 0), .int (bI fig), .int (bI uns), .int (nI play), .int (nI u), .ref (ad 51), .ref (ad 52), .ref (ad 53), .ref (ad 54), .ref (ad 55), .int (nI (n + 1)), .int (nI rd), .int (nI came), .int mis, .int lost, .int bel])) := ⟨_, rfl⟩
          replace hI : mI k ad N g9 (mA ad N s.heap.size) s H locs := by rw [hg9]; exact hI
          have m_49 : g9 50 = .inr (4, [.int (nI 0), .int (bI fig), .int (bI uns), .int (nI play), .int (nI u), .ref (ad 51), .ref (ad 52), .ref (ad 53), .ref (ad 54), .ref (ad 55), .int (nI (n + 1)), .int (nI rd), .int (nI came), .int mis, .int lost, .int bel]) := by rw [hg9, va_up_self]
          have m_50 : g9 51 = .inl (k.2.1.1, 20, .inl (fun j => nI (ln j))) := by rw [hg9, va_up_ne _ _ (by omega), va_up_ne _ _ (by omega)]; exact m_2
          have m_51 : g9 52 = .inl (k.2.1.1, 800, .inl (fun j => nI (pg j))) := by rw [hg9, va_up_ne _ _ (by omega), va_up_ne _ _ (by omega)]; exact m_3
          have m_52 : g9 53 = .inl (k.2.1.1, 16, .inl lat) := by rw [hg9, va_up_ne _ _ (by omega), va_up_ne _ _ (by omega)]; exact m_4
          have m_53 : g9 54 = .inl (k.2.1.1, 16, .inl (fun j => nI (gar j))) := by rw [hg9, va_up_ne _ _ (by omega), va_up_ne _ _ (by omega)]; exact m_5
          have m_54 : g9 55 = .inl (k.2.1.1, 120, .inl (fun i9 => nI (va_up T n (cd j) i9))) := by rw [hg9, va_up_ne _ _ (by omega), va_up_self]
          have hW9 : CW play rd (n + 1) lat gar (va_up T n (cd j)) := CW.punch hW (by omega) (by first | omega | exact cd_lt _ (by omega))
          refine lv_iload_n hx hb dX4_type_106 rfl (lv_at hl 0 rfl) ?_
          refine m_zeqN (tgt := 114) hx hb (by omega) dX4_type_107 (by decide) (fun c_107 => ?_) (fun c => absurd c (by decide))
          refine lv_iconst (v := nI 1) hx hb dX4_type_114 (by decide) ?_
          have htyt : tyT uns T n j = va_up T n (cd j) := by unfold tyT; rw [htys]; rfl
          exact m_iret hx hb hr hlocks hI (⟨Or.inl (⟨⟨c_9, by rw [htnj, htyn]; omega⟩, by rw [htnj, htyn], by rw [htnj, htyn, htyt]; exact ⟨m_49, m_50, m_51, m_52, m_53, m_54⟩⟩), fun i hi => by rw [hg9, va_up_ne _ _ (by omega), va_up_ne _ _ (by omega), hg1, va_up_ne _ _ (by omega)]⟩) dX4_type_115
        · refine lv_aload_n hx hb dX4_type_73 rfl (lv_at hl 2 rfl) ?_
          refine lv_iconst (v := nI 2) hx hb dX4_type_74 (by decide) ?_
          refine m_callVi (As := [.int (nI 2)]) (rest := []) ⟨hx, hb, hml, hown, hts⟩ hE hI (c_X4_fail k l ad N g1 _ 0 uns play rd n lat gar T came mis lost bel fig u ln pg 2 (by omega) hW hwf (by omega) ⟨m_1, m_2, m_3, m_4, m_5, m_6⟩ ) (cwV 1 hts gX4_type_X4_fail rfl rfl rfl (by decide +kernel) ⟨Nat.le_of_ble_eq_true rfl, Nat.le_of_ble_eq_true rfl⟩) (i := 50) (by omega) m_1 rfl rfl hl.1 rfl (Nat.le_of_ble_eq_true rfl) dX4_type_75 ⟨Nat.le_of_ble_eq_true rfl, Nat.le_of_ble_eq_true rfl⟩ (m_deti (fun H locs hI => ?_))
          obtain ⟨g10, hg10⟩ : ∃ zz, zz = va_up g1 50 (.inr (4, [.int (nI 2), .int (bI fig), .int (bI uns), .int (nI play), .int (nI u), .ref (ad 51), .ref (ad 52), .ref (ad 53), .ref (ad 54), .ref (ad 55), .int (nI n), .int (nI rd), .int (nI came), .int mis, .int lost, .int bel])) := ⟨_, rfl⟩
          replace hI : mI k ad N g10 (mA ad N s.heap.size) s H locs := by rw [hg10]; exact hI
          have m_55 : g10 50 = .inr (4, [.int (nI 2), .int (bI fig), .int (bI uns), .int (nI play), .int (nI u), .ref (ad 51), .ref (ad 52), .ref (ad 53), .ref (ad 54), .ref (ad 55), .int (nI n), .int (nI rd), .int (nI came), .int mis, .int lost, .int bel]) := by rw [hg10, va_up_self]
          have m_56 : g10 51 = .inl (k.2.1.1, 20, .inl (fun j => nI (ln j))) := by rw [hg10, va_up_ne _ _ (by omega)]; exact m_2
          have m_57 : g10 52 = .inl (k.2.1.1, 800, .inl (fun j => nI (pg j))) := by rw [hg10, va_up_ne _ _ (by omega)]; exact m_3
          have m_58 : g10 53 = .inl (k.2.1.1, 16, .inl lat) := by rw [hg10, va_up_ne _ _ (by omega)]; exact m_4
          have m_59 : g10 54 = .inl (k.2.1.1, 16, .inl (fun j => nI (gar j))) := by rw [hg10, va_up_ne _ _ (by omega)]; exact m_5
          have m_60 : g10 55 = .inl (k.2.1.1, 120, .inl (fun j => nI (T j))) := by rw [hg10, va_up_ne _ _ (by omega)]; exact m_6
          exact m_iret hx hb hr hlocks hI (⟨Or.inr (Or.inr (⟨⟨c_9, by rw [htnj, htyn]; omega⟩, ⟨m_55, m_56, m_57, m_58, m_59, m_60⟩⟩)), fun i hi => by rw [hg10, va_up_ne _ _ (by omega), hg1, va_up_ne _ _ (by omega)]⟩) dX4_type_78
      · refine lv_iload_n hx hb dX4_type_36 rfl (lv_at hl 0 rfl) ?_
        refine lv_aload_n hx hb dX4_type_37 rfl (lv_at hl 1 rfl) ?_
        refine lv_aload_n hx hb dX4_type_38 rfl (lv_at hl 1 rfl) ?_
        refine m_get (ci := 4) (C := RX4) (T := TX4) (N' := 16) hx hb hts (by decide +kernel) hown hE hI 50 (by omega) m_1 rfl 10 (by decide) (hts (.fieldLink RX4 109 "TapePrinterModel" "codes" "I") (by decide +kernel)) rfl dX4_type_39 ?_
        refine m_callVi (As := [.int (nI n)]) (rest := [.int (bI true)]) ⟨hx, hb, hml, hown, hts⟩ hE hI (c_X4_shiftAt k l ad N g1 _ 0 uns play rd n lat gar T came mis lost bel fig u ln pg n (by omega) hW hwf (by omega) ⟨m_1, m_2, m_3, m_4, m_5, m_6⟩ (by omega)) (cwV 1 hts gX4_type_X4_shiftAt rfl rfl rfl (by decide +kernel) ⟨Nat.le_of_ble_eq_true rfl, Nat.le_of_ble_eq_true rfl⟩) (i := 50) (by omega) m_1 rfl rfl hl.1 rfl (Nat.le_of_ble_eq_true rfl) dX4_type_42 ⟨Nat.le_of_ble_eq_true rfl, Nat.le_of_ble_eq_true rfl⟩ (m_deti (fun H locs hI => ?_))
        refine m_ceqB (tgt := 52) hx hb dX4_type_45 (by decide) (fun c_45 => ?_) (fun c_45 => ?_)
        · refine lv_iconst (v := nI 0) hx hb dX4_type_52 (by decide) ?_
          have htys : tyS uns T n j = false := by unfold tyS; rw [ty_dep j (by omega) h1j, ty_fig c_33, hnd, decide_eq_true c_33]; rw [← c_45]; first | rfl | simp
          have htyn : tyN uns T n j = 1 := by unfold tyN; rw [htys]; rfl
          refine lv_istore_n (lv' := [(3, .int (nI 0)), (2, .int (bI true)), (0, .ref (ad 50)), (1, .int (nI j))]) hx hb dX4_type_53 rfl hl (by decide) rfl (fun ls hl => ?_)
          refine lv_aload_n hx hb dX4_type_54 rfl (lv_at hl 2 rfl) ?_
          refine m_get (ci := 4) (C := RX4) (T := TX4) (N' := 16) hx hb hts (by decide +kernel) hown hE hI 50 (by omega) m_1 rfl 10 (by decide) (hts (.fieldLink RX4 109 "TapePrinterModel" "codes" "I") (by decide +kernel)) rfl dX4_type_55 ?_
          refine lv_iload_n hx hb dX4_type_58 rfl (lv_at hl 0 rfl) ?_
          refine m_zeqN (tgt := 66) hx hb (by omega) dX4_type_59 (by decide) (fun c_59 => ?_) (fun c => absurd c (by decide))
          refine lv_iconst (v := nI 1) hx hb dX4_type_66 (by decide) ?_
          refine m_iaddN hx hb dX4_type_67 ?_
          refine lv_bipush (v := nI 120) hx hb dX4_type_68 (by decide) ?_
          refine m_cleN (tgt := 79) hx hb (by omega) (by omega) dX4_type_70 (by decide) (fun c_70 => ?_) (fun c_70 => ?_)
          · refine lv_iload_n hx hb dX4_type_79 rfl (lv_at hl 0 rfl) ?_
            refine m_zeqN (tgt := 98) hx hb (by omega) dX4_type_80 (by decide) (fun c_80 => ?_) (fun c => absurd c (by decide))
            refine lv_aload_n hx hb dX4_type_98 rfl (lv_at hl 2 rfl) ?_
            refine lv_iload_n hx hb dX4_type_99 rfl (lv_at hl 3 rfl) ?_
            refine m_callSi (As := [.int (nI j)]) (rest := [.ref (ad 50)]) ⟨hx, hb, hml, hown, hts⟩ hE hI (c_X4_codeOf k l ad N g1 _ j (by omega) (by omega)) (va_cwS 1 hts gX4_type_X4_codeOf rfl rfl rfl (by decide +kernel) ⟨Nat.le_of_ble_eq_true rfl, Nat.le_of_ble_eq_true rfl⟩) rfl hl.1 rfl (Nat.le_of_ble_eq_true rfl) dX4_type_100 ⟨Nat.le_of_ble_eq_true rfl, Nat.le_of_ble_eq_true rfl⟩ (m_deti (fun H locs hI => ?_))
            refine m_callVv (As := [.int (nI (cd j))]) (rest := []) ⟨hx, hb, hml, hown, hts⟩ hE hI (c_X4_put k l ad N g1 _ 0 uns play rd n lat gar T came mis lost bel fig u ln pg (cd j) (by omega) hW hwf (by omega) ⟨m_1, m_2, m_3, m_4, m_5, m_6⟩ (by omega)) (cwV 1 hts gX4_type_X4_put rfl rfl rfl (by decide +kernel) ⟨Nat.le_of_ble_eq_true rfl, Nat.le_of_ble_eq_true rfl⟩) (i := 50) (by omega) m_1 rfl rfl hl.1 rfl (Nat.le_of_ble_eq_true rfl) dX4_type_103 ⟨Nat.le_of_ble_eq_true rfl, Nat.le_of_ble_eq_true rfl⟩ (m_detv (fun H locs hI => ?_))
            obtain ⟨g11, hg11⟩ : ∃ zz, zz = va_up (va_up g1 55 (.inl (k.2.1.1, 120, .inl (fun i9 => nI (va_up T n (cd j) i9))))) 50 (.inr (4, [.int (nI 0), .int (bI fig), .int (bI uns), .int (nI play), .int (nI u), .ref (ad 51), .ref (ad 52), .ref (ad 53), .ref (ad 54), .ref (ad 55), .int (nI (n + 1)), .int (nI rd), .int (nI came), .int mis, .int lost, .int bel])) := ⟨_, rfl⟩
            replace hI : mI k ad N g11 (mA ad N s.heap.size) s H locs := by rw [hg11]; exact hI
            have m_61 : g11 50 = .inr (4, [.int (nI 0), .int (bI fig), .int (bI uns), .int (nI play), .int (nI u), .ref (ad 51), .ref (ad 52), .ref (ad 53), .ref (ad 54), .ref (ad 55), .int (nI (n + 1)), .int (nI rd), .int (nI came), .int mis, .int lost, .int bel]) := by rw [hg11, va_up_self]
            have m_62 : g11 51 = .inl (k.2.1.1, 20, .inl (fun j => nI (ln j))) := by rw [hg11, va_up_ne _ _ (by omega), va_up_ne _ _ (by omega)]; exact m_2
            have m_63 : g11 52 = .inl (k.2.1.1, 800, .inl (fun j => nI (pg j))) := by rw [hg11, va_up_ne _ _ (by omega), va_up_ne _ _ (by omega)]; exact m_3
            have m_64 : g11 53 = .inl (k.2.1.1, 16, .inl lat) := by rw [hg11, va_up_ne _ _ (by omega), va_up_ne _ _ (by omega)]; exact m_4
            have m_65 : g11 54 = .inl (k.2.1.1, 16, .inl (fun j => nI (gar j))) := by rw [hg11, va_up_ne _ _ (by omega), va_up_ne _ _ (by omega)]; exact m_5
            have m_66 : g11 55 = .inl (k.2.1.1, 120, .inl (fun i9 => nI (va_up T n (cd j) i9))) := by rw [hg11, va_up_ne _ _ (by omega), va_up_self]
            have hW9 : CW play rd (n + 1) lat gar (va_up T n (cd j)) := CW.punch hW (by omega) (by first | omega | exact cd_lt _ (by omega))
            refine lv_iload_n hx hb dX4_type_106 rfl (lv_at hl 0 rfl) ?_
            refine m_zeqN (tgt := 114) hx hb (by omega) dX4_type_107 (by decide) (fun c_107 => ?_) (fun c => absurd c (by decide))
            refine lv_iconst (v := nI 1) hx hb dX4_type_114 (by decide) ?_
            have htyt : tyT uns T n j = va_up T n (cd j) := by unfold tyT; rw [htys]; rfl
            exact m_iret hx hb hr hlocks hI (⟨Or.inl (⟨⟨c_9, by rw [htnj, htyn]; omega⟩, by rw [htnj, htyn], by rw [htnj, htyn, htyt]; exact ⟨m_61, m_62, m_63, m_64, m_65, m_66⟩⟩), fun i hi => by rw [hg11, va_up_ne _ _ (by omega), va_up_ne _ _ (by omega), hg1, va_up_ne _ _ (by omega)]⟩) dX4_type_115
          · refine lv_aload_n hx hb dX4_type_73 rfl (lv_at hl 2 rfl) ?_
            refine lv_iconst (v := nI 2) hx hb dX4_type_74 (by decide) ?_
            refine m_callVi (As := [.int (nI 2)]) (rest := []) ⟨hx, hb, hml, hown, hts⟩ hE hI (c_X4_fail k l ad N g1 _ 0 uns play rd n lat gar T came mis lost bel fig u ln pg 2 (by omega) hW hwf (by omega) ⟨m_1, m_2, m_3, m_4, m_5, m_6⟩ ) (cwV 1 hts gX4_type_X4_fail rfl rfl rfl (by decide +kernel) ⟨Nat.le_of_ble_eq_true rfl, Nat.le_of_ble_eq_true rfl⟩) (i := 50) (by omega) m_1 rfl rfl hl.1 rfl (Nat.le_of_ble_eq_true rfl) dX4_type_75 ⟨Nat.le_of_ble_eq_true rfl, Nat.le_of_ble_eq_true rfl⟩ (m_deti (fun H locs hI => ?_))
            obtain ⟨g12, hg12⟩ : ∃ zz, zz = va_up g1 50 (.inr (4, [.int (nI 2), .int (bI fig), .int (bI uns), .int (nI play), .int (nI u), .ref (ad 51), .ref (ad 52), .ref (ad 53), .ref (ad 54), .ref (ad 55), .int (nI n), .int (nI rd), .int (nI came), .int mis, .int lost, .int bel])) := ⟨_, rfl⟩
            replace hI : mI k ad N g12 (mA ad N s.heap.size) s H locs := by rw [hg12]; exact hI
            have m_67 : g12 50 = .inr (4, [.int (nI 2), .int (bI fig), .int (bI uns), .int (nI play), .int (nI u), .ref (ad 51), .ref (ad 52), .ref (ad 53), .ref (ad 54), .ref (ad 55), .int (nI n), .int (nI rd), .int (nI came), .int mis, .int lost, .int bel]) := by rw [hg12, va_up_self]
            have m_68 : g12 51 = .inl (k.2.1.1, 20, .inl (fun j => nI (ln j))) := by rw [hg12, va_up_ne _ _ (by omega)]; exact m_2
            have m_69 : g12 52 = .inl (k.2.1.1, 800, .inl (fun j => nI (pg j))) := by rw [hg12, va_up_ne _ _ (by omega)]; exact m_3
            have m_70 : g12 53 = .inl (k.2.1.1, 16, .inl lat) := by rw [hg12, va_up_ne _ _ (by omega)]; exact m_4
            have m_71 : g12 54 = .inl (k.2.1.1, 16, .inl (fun j => nI (gar j))) := by rw [hg12, va_up_ne _ _ (by omega)]; exact m_5
            have m_72 : g12 55 = .inl (k.2.1.1, 120, .inl (fun j => nI (T j))) := by rw [hg12, va_up_ne _ _ (by omega)]; exact m_6
            exact m_iret hx hb hr hlocks hI (⟨Or.inr (Or.inr (⟨⟨c_9, by rw [htnj, htyn]; omega⟩, ⟨m_67, m_68, m_69, m_70, m_71, m_72⟩⟩)), fun i hi => by rw [hg12, va_up_ne _ _ (by omega), hg1, va_up_ne _ _ (by omega)]⟩) dX4_type_78
        · refine lv_iconst (v := nI 1) hx hb dX4_type_48 (by decide) ?_
          refine lv_goto (tgt := 53) hx hb dX4_type_49 (by decide) ?_
          have htys : tyS uns T n j = true := by unfold tyS; rw [ty_dep j (by omega) h1j, ty_fig c_33, hnd, decide_eq_true c_33]; rw [Bool.true_and]; exact bne_iff_ne.mpr c_45
          have htyn : tyN uns T n j = 2 := by unfold tyN; rw [htys]; rfl
          refine lv_istore_n (lv' := [(3, .int (nI 1)), (2, .int (bI true)), (0, .ref (ad 50)), (1, .int (nI j))]) hx hb dX4_type_53 rfl hl (by decide) rfl (fun ls hl => ?_)
          refine lv_aload_n hx hb dX4_type_54 rfl (lv_at hl 2 rfl) ?_
          refine m_get (ci := 4) (C := RX4) (T := TX4) (N' := 16) hx hb hts (by decide +kernel) hown hE hI 50 (by omega) m_1 rfl 10 (by decide) (hts (.fieldLink RX4 109 "TapePrinterModel" "codes" "I") (by decide +kernel)) rfl dX4_type_55 ?_
          refine lv_iload_n hx hb dX4_type_58 rfl (lv_at hl 0 rfl) ?_
          refine m_zeqN (tgt := 66) hx hb (by omega) dX4_type_59 (by decide) (fun c => absurd c (by decide)) (fun c_59 => ?_)
          refine lv_iconst (v := nI 2) hx hb dX4_type_62 (by decide) ?_
          refine lv_goto (tgt := 67) hx hb dX4_type_63 (by decide) ?_
          refine m_iaddN hx hb dX4_type_67 ?_
          refine lv_bipush (v := nI 120) hx hb dX4_type_68 (by decide) ?_
          refine m_cleN (tgt := 79) hx hb (by omega) (by omega) dX4_type_70 (by decide) (fun c_70 => ?_) (fun c_70 => ?_)
          · refine lv_iload_n hx hb dX4_type_79 rfl (lv_at hl 0 rfl) ?_
            refine m_zeqN (tgt := 98) hx hb (by omega) dX4_type_80 (by decide) (fun c => absurd c (by decide)) (fun c_80 => ?_)
            refine lv_aload_n hx hb dX4_type_83 rfl (lv_at hl 2 rfl) ?_
            refine lv_iload_n hx hb dX4_type_84 rfl (lv_at hl 1 rfl) ?_
            refine m_zeqB (tgt := 93) hx hb dX4_type_85 (by decide) (fun c => absurd c (by decide)) (fun c_85 => ?_)
            refine lv_bipush (v := nI 27) hx hb dX4_type_88 (by decide) ?_
            refine lv_goto (tgt := 95) hx hb dX4_type_90 (by decide) ?_
            refine m_callVv (As := [.int (nI 27)]) (rest := []) ⟨hx, hb, hml, hown, hts⟩ hE hI (c_X4_put k l ad N g1 _ 0 uns play rd n lat gar T came mis lost bel fig u ln pg 27 (by omega) hW hwf (by omega) ⟨m_1, m_2, m_3, m_4, m_5, m_6⟩ (by omega)) (cwV 1 hts gX4_type_X4_put rfl rfl rfl (by decide +kernel) ⟨Nat.le_of_ble_eq_true rfl, Nat.le_of_ble_eq_true rfl⟩) (i := 50) (by omega) m_1 rfl rfl hl.1 rfl (Nat.le_of_ble_eq_true rfl) dX4_type_95 ⟨Nat.le_of_ble_eq_true rfl, Nat.le_of_ble_eq_true rfl⟩ (m_detv (fun H locs hI => ?_))
            obtain ⟨g13, hg13⟩ : ∃ zz, zz = va_up (va_up g1 55 (.inl (k.2.1.1, 120, .inl (fun i9 => nI (va_up T n 27 i9))))) 50 (.inr (4, [.int (nI 0), .int (bI fig), .int (bI uns), .int (nI play), .int (nI u), .ref (ad 51), .ref (ad 52), .ref (ad 53), .ref (ad 54), .ref (ad 55), .int (nI (n + 1)), .int (nI rd), .int (nI came), .int mis, .int lost, .int bel])) := ⟨_, rfl⟩
            replace hI : mI k ad N g13 (mA ad N s.heap.size) s H locs := by rw [hg13]; exact hI
            have m_73 : g13 50 = .inr (4, [.int (nI 0), .int (bI fig), .int (bI uns), .int (nI play), .int (nI u), .ref (ad 51), .ref (ad 52), .ref (ad 53), .ref (ad 54), .ref (ad 55), .int (nI (n + 1)), .int (nI rd), .int (nI came), .int mis, .int lost, .int bel]) := by rw [hg13, va_up_self]
            have m_74 : g13 51 = .inl (k.2.1.1, 20, .inl (fun j => nI (ln j))) := by rw [hg13, va_up_ne _ _ (by omega), va_up_ne _ _ (by omega)]; exact m_2
            have m_75 : g13 52 = .inl (k.2.1.1, 800, .inl (fun j => nI (pg j))) := by rw [hg13, va_up_ne _ _ (by omega), va_up_ne _ _ (by omega)]; exact m_3
            have m_76 : g13 53 = .inl (k.2.1.1, 16, .inl lat) := by rw [hg13, va_up_ne _ _ (by omega), va_up_ne _ _ (by omega)]; exact m_4
            have m_77 : g13 54 = .inl (k.2.1.1, 16, .inl (fun j => nI (gar j))) := by rw [hg13, va_up_ne _ _ (by omega), va_up_ne _ _ (by omega)]; exact m_5
            have m_78 : g13 55 = .inl (k.2.1.1, 120, .inl (fun i9 => nI (va_up T n 27 i9))) := by rw [hg13, va_up_ne _ _ (by omega), va_up_self]
            have hW9 : CW play rd (n + 1) lat gar (va_up T n 27) := CW.punch hW (by omega) (by first | omega | exact cd_lt _ (by omega))
            refine lv_aload_n hx hb dX4_type_98 rfl (lv_at hl 2 rfl) ?_
            refine lv_iload_n hx hb dX4_type_99 rfl (lv_at hl 3 rfl) ?_
            refine m_callSi (As := [.int (nI j)]) (rest := [.ref (ad 50)]) ⟨hx, hb, hml, hown, hts⟩ hE hI (c_X4_codeOf k l ad N g13 _ j (by omega) (by omega)) (va_cwS 1 hts gX4_type_X4_codeOf rfl rfl rfl (by decide +kernel) ⟨Nat.le_of_ble_eq_true rfl, Nat.le_of_ble_eq_true rfl⟩) rfl hl.1 rfl (Nat.le_of_ble_eq_true rfl) dX4_type_100 ⟨Nat.le_of_ble_eq_true rfl, Nat.le_of_ble_eq_true rfl⟩ (m_deti (fun H locs hI => ?_))
            refine m_callVv (As := [.int (nI (cd j))]) (rest := []) ⟨hx, hb, hml, hown, hts⟩ hE hI (c_X4_put k l ad N g13 _ 0 uns play rd (n + 1) lat gar (va_up T n 27) came mis lost bel fig u ln pg (cd j) (by omega) hW9 hwf (by omega) ⟨m_73, m_74, m_75, m_76, m_77, m_78⟩ (by omega)) (cwV 1 hts gX4_type_X4_put rfl rfl rfl (by decide +kernel) ⟨Nat.le_of_ble_eq_true rfl, Nat.le_of_ble_eq_true rfl⟩) (i := 50) (by omega) m_73 rfl rfl hl.1 rfl (Nat.le_of_ble_eq_true rfl) dX4_type_103 ⟨Nat.le_of_ble_eq_true rfl, Nat.le_of_ble_eq_true rfl⟩ (m_detv (fun H locs hI => ?_))
            obtain ⟨g14, hg14⟩ : ∃ zz, zz = va_up (va_up g13 55 (.inl (k.2.1.1, 120, .inl (fun i9 => nI (va_up (va_up T n 27) (n + 1) (cd j) i9))))) 50 (.inr (4, [.int (nI 0), .int (bI fig), .int (bI uns), .int (nI play), .int (nI u), .ref (ad 51), .ref (ad 52), .ref (ad 53), .ref (ad 54), .ref (ad 55), .int (nI ((n + 1) + 1)), .int (nI rd), .int (nI came), .int mis, .int lost, .int bel])) := ⟨_, rfl⟩
            replace hI : mI k ad N g14 (mA ad N s.heap.size) s H locs := by rw [hg14]; exact hI
            have m_79 : g14 50 = .inr (4, [.int (nI 0), .int (bI fig), .int (bI uns), .int (nI play), .int (nI u), .ref (ad 51), .ref (ad 52), .ref (ad 53), .ref (ad 54), .ref (ad 55), .int (nI ((n + 1) + 1)), .int (nI rd), .int (nI came), .int mis, .int lost, .int bel]) := by rw [hg14, va_up_self]
            have m_80 : g14 51 = .inl (k.2.1.1, 20, .inl (fun j => nI (ln j))) := by rw [hg14, va_up_ne _ _ (by omega), va_up_ne _ _ (by omega)]; exact m_74
            have m_81 : g14 52 = .inl (k.2.1.1, 800, .inl (fun j => nI (pg j))) := by rw [hg14, va_up_ne _ _ (by omega), va_up_ne _ _ (by omega)]; exact m_75
            have m_82 : g14 53 = .inl (k.2.1.1, 16, .inl lat) := by rw [hg14, va_up_ne _ _ (by omega), va_up_ne _ _ (by omega)]; exact m_76
            have m_83 : g14 54 = .inl (k.2.1.1, 16, .inl (fun j => nI (gar j))) := by rw [hg14, va_up_ne _ _ (by omega), va_up_ne _ _ (by omega)]; exact m_77
            have m_84 : g14 55 = .inl (k.2.1.1, 120, .inl (fun i9 => nI (va_up (va_up T n 27) (n + 1) (cd j) i9))) := by rw [hg14, va_up_ne _ _ (by omega), va_up_self]
            have hW9 : CW play rd ((n + 1) + 1) lat gar (va_up (va_up T n 27) (n + 1) (cd j)) := CW.punch hW9 (by omega) (by first | omega | exact cd_lt _ (by omega))
            refine lv_iload_n hx hb dX4_type_106 rfl (lv_at hl 0 rfl) ?_
            refine m_zeqN (tgt := 114) hx hb (by omega) dX4_type_107 (by decide) (fun c => absurd c (by decide)) (fun c_107 => ?_)
            refine lv_iconst (v := nI 2) hx hb dX4_type_110 (by decide) ?_
            refine lv_goto (tgt := 115) hx hb dX4_type_111 (by decide) ?_
            have htyt : tyT uns T n j = va_up (va_up T n 27) (n + 1) (cd j) := by unfold tyT; rw [htys, ty_fig (by omega), hnd]; rfl
            exact m_iret hx hb hr hlocks hI (⟨Or.inl (⟨⟨c_9, by rw [htnj, htyn]; omega⟩, by rw [htnj, htyn], by rw [htnj, htyn, htyt]; exact ⟨m_79, m_80, m_81, m_82, m_83, m_84⟩⟩), fun i hi => by rw [hg14, va_up_ne _ _ (by omega), va_up_ne _ _ (by omega), hg13, va_up_ne _ _ (by omega), va_up_ne _ _ (by omega), hg1, va_up_ne _ _ (by omega)]⟩) dX4_type_115
          · refine lv_aload_n hx hb dX4_type_73 rfl (lv_at hl 2 rfl) ?_
            refine lv_iconst (v := nI 2) hx hb dX4_type_74 (by decide) ?_
            refine m_callVi (As := [.int (nI 2)]) (rest := []) ⟨hx, hb, hml, hown, hts⟩ hE hI (c_X4_fail k l ad N g1 _ 0 uns play rd n lat gar T came mis lost bel fig u ln pg 2 (by omega) hW hwf (by omega) ⟨m_1, m_2, m_3, m_4, m_5, m_6⟩ ) (cwV 1 hts gX4_type_X4_fail rfl rfl rfl (by decide +kernel) ⟨Nat.le_of_ble_eq_true rfl, Nat.le_of_ble_eq_true rfl⟩) (i := 50) (by omega) m_1 rfl rfl hl.1 rfl (Nat.le_of_ble_eq_true rfl) dX4_type_75 ⟨Nat.le_of_ble_eq_true rfl, Nat.le_of_ble_eq_true rfl⟩ (m_deti (fun H locs hI => ?_))
            obtain ⟨g15, hg15⟩ : ∃ zz, zz = va_up g1 50 (.inr (4, [.int (nI 2), .int (bI fig), .int (bI uns), .int (nI play), .int (nI u), .ref (ad 51), .ref (ad 52), .ref (ad 53), .ref (ad 54), .ref (ad 55), .int (nI n), .int (nI rd), .int (nI came), .int mis, .int lost, .int bel])) := ⟨_, rfl⟩
            replace hI : mI k ad N g15 (mA ad N s.heap.size) s H locs := by rw [hg15]; exact hI
            have m_85 : g15 50 = .inr (4, [.int (nI 2), .int (bI fig), .int (bI uns), .int (nI play), .int (nI u), .ref (ad 51), .ref (ad 52), .ref (ad 53), .ref (ad 54), .ref (ad 55), .int (nI n), .int (nI rd), .int (nI came), .int mis, .int lost, .int bel]) := by rw [hg15, va_up_self]
            have m_86 : g15 51 = .inl (k.2.1.1, 20, .inl (fun j => nI (ln j))) := by rw [hg15, va_up_ne _ _ (by omega)]; exact m_2
            have m_87 : g15 52 = .inl (k.2.1.1, 800, .inl (fun j => nI (pg j))) := by rw [hg15, va_up_ne _ _ (by omega)]; exact m_3
            have m_88 : g15 53 = .inl (k.2.1.1, 16, .inl lat) := by rw [hg15, va_up_ne _ _ (by omega)]; exact m_4
            have m_89 : g15 54 = .inl (k.2.1.1, 16, .inl (fun j => nI (gar j))) := by rw [hg15, va_up_ne _ _ (by omega)]; exact m_5
            have m_90 : g15 55 = .inl (k.2.1.1, 120, .inl (fun j => nI (T j))) := by rw [hg15, va_up_ne _ _ (by omega)]; exact m_6
            exact m_iret hx hb hr hlocks hI (⟨Or.inr (Or.inr (⟨⟨c_9, by rw [htnj, htyn]; omega⟩, ⟨m_85, m_86, m_87, m_88, m_89, m_90⟩⟩)), fun i hi => by rw [hg15, va_up_ne _ _ (by omega), hg1, va_up_ne _ _ (by omega)]⟩) dX4_type_78
  · refine lv_aload_n hx hb dX4_type_12 rfl (lv_at hl 0 rfl) ?_
    refine lv_iconst (v := nI 1) hx hb dX4_type_13 (by decide) ?_
    refine m_callVi (As := [.int (nI 1)]) (rest := []) ⟨hx, hb, hml, hown, hts⟩ hE hI (c_X4_fail k l ad N g1 _ 0 uns play rd n lat gar T came mis lost bel fig u ln pg 1 (by omega) hW hwf (by omega) ⟨m_1, m_2, m_3, m_4, m_5, m_6⟩ ) (cwV 1 hts gX4_type_X4_fail rfl rfl rfl (by decide +kernel) ⟨Nat.le_of_ble_eq_true rfl, Nat.le_of_ble_eq_true rfl⟩) (i := 50) (by omega) m_1 rfl rfl hl.1 rfl (Nat.le_of_ble_eq_true rfl) dX4_type_14 ⟨Nat.le_of_ble_eq_true rfl, Nat.le_of_ble_eq_true rfl⟩ (m_deti (fun H locs hI => ?_))
    obtain ⟨g16, hg16⟩ : ∃ zz, zz = va_up g1 50 (.inr (4, [.int (nI 1), .int (bI fig), .int (bI uns), .int (nI play), .int (nI u), .ref (ad 51), .ref (ad 52), .ref (ad 53), .ref (ad 54), .ref (ad 55), .int (nI n), .int (nI rd), .int (nI came), .int mis, .int lost, .int bel])) := ⟨_, rfl⟩
    replace hI : mI k ad N g16 (mA ad N s.heap.size) s H locs := by rw [hg16]; exact hI
    have m_91 : g16 50 = .inr (4, [.int (nI 1), .int (bI fig), .int (bI uns), .int (nI play), .int (nI u), .ref (ad 51), .ref (ad 52), .ref (ad 53), .ref (ad 54), .ref (ad 55), .int (nI n), .int (nI rd), .int (nI came), .int mis, .int lost, .int bel]) := by rw [hg16, va_up_self]
    have m_92 : g16 51 = .inl (k.2.1.1, 20, .inl (fun j => nI (ln j))) := by rw [hg16, va_up_ne _ _ (by omega)]; exact m_2
    have m_93 : g16 52 = .inl (k.2.1.1, 800, .inl (fun j => nI (pg j))) := by rw [hg16, va_up_ne _ _ (by omega)]; exact m_3
    have m_94 : g16 53 = .inl (k.2.1.1, 16, .inl lat) := by rw [hg16, va_up_ne _ _ (by omega)]; exact m_4
    have m_95 : g16 54 = .inl (k.2.1.1, 16, .inl (fun j => nI (gar j))) := by rw [hg16, va_up_ne _ _ (by omega)]; exact m_5
    have m_96 : g16 55 = .inl (k.2.1.1, 120, .inl (fun j => nI (T j))) := by rw [hg16, va_up_ne _ _ (by omega)]; exact m_6
    exact m_iret hx hb hr hlocks hI (⟨Or.inr (Or.inl (⟨c_9, ⟨m_91, m_92, m_93, m_94, m_95, m_96⟩⟩)), fun i hi => by rw [hg16, va_up_ne _ _ (by omega), hg1, va_up_ne _ _ (by omega)]⟩) dX4_type_17
set_option maxHeartbeats 8000000 in
set_option maxRecDepth 100000 in
theorem c_X4_rub (k : mC) (l : Launch) (ad : Nat → Nat) (N : Nat) (g : Nat → va_E) (sz : Nat) (th : Nat) (uns : Bool) (play rd n : Nat) (lat : Nat → Int32) (gar T : Nat → Nat) (came : Nat) (mis lost bel : Int32) (fig : Bool) (u : Nat) (ln pg : Nat → Nat) (p0 : Int32) (hN : 56 ≤ N) (hW : CW play rd n lat gar T) (hwf : mWf (u, ln, pg)) (hcame : came < 2000000000) (hM0 : MR k ad g th uns play rd n lat gar T (came, mis, lost, bel, fig, u, ln, pg))  : mCi k l yX4_rub wsX4_rub { frames := 2, cells := 0, slots := 0, locals := 43 } ad N g sz [.ref (ad 50), .int p0] (fun r1 g1 => ((inN p0 n = true ∧ r1 = nI (T (tn p0)) ∧ MR k ad g1 0 uns play rd n lat gar (va_up T (tn p0) 31) (came, mis, lost, bel, fig, u, ln, pg)) ∨ (inN p0 n = false ∧ MR k ad g1 1 uns play rd n lat gar T (came, mis, lost, bel, fig, u, ln, pg))) ∧ ∀ i, (i < 50 ∨ 56 ≤ i) → g1 i = g i) := by
  refine mOf (Qc := fun z9 => va_Qi (fun r1 g1 => ((inN p0 n = true ∧ r1 = nI (T (tn p0)) ∧ MR k ad g1 0 uns play rd n lat gar (va_up T (tn p0) 31) (came, mis, lost, bel, fig, u, ln, pg)) ∨ (inN p0 n = false ∧ MR k ad g1 1 uns play rd n lat gar T (came, mis, lost, bel, fig, u, ln, pg))) ∧ ∀ i, (i < 50 ∨ 56 ≤ i) → g1 i = g i) (mB k ad N) (mA ad N z9)) (cc := cX4_rub) (maxL := 3) (ret := (some .int)) (by decide) rfl (Nat.le_of_ble_eq_true rfl) ?_
  intro p e s m below meth c hx hb hr hts hown hlocks hml hin hE hI ls hl
  have hl : lv_has ls 3 [(0, .ref (ad 50)), (1, .int p0)] := hl
  have h50 : g 50 = .inr (4, [.int (nI th), .int (bI fig), .int (bI uns), .int (nI play), .int (nI u), .ref (ad 51), .ref (ad 52), .ref (ad 53), .ref (ad 54), .ref (ad 55), .int (nI n), .int (nI rd), .int (nI came), .int mis, .int lost, .int bel]) := hM0.1
  have h51 : g 51 = .inl (k.2.1.1, 20, .inl (fun j => nI (ln j))) := hM0.2.1
  have h52 : g 52 = .inl (k.2.1.1, 800, .inl (fun j => nI (pg j))) := hM0.2.2.1
  have h53 : g 53 = .inl (k.2.1.1, 16, .inl lat) := hM0.2.2.2.1
  have h54 : g 54 = .inl (k.2.1.1, 16, .inl (fun j => nI (gar j))) := hM0.2.2.2.2.1
  have h55 : g 55 = .inl (k.2.1.1, 120, .inl (fun j => nI (T j))) := hM0.2.2.2.2.2
  obtain ⟨hplay, hrd, hn, hgar, hT, hlat⟩ := id hW
  have hu0 : 0 < u := hwf.1
  have hu : u ≤ 20 := hwf.2.1
  have hln : ∀ j, j < 20 → ln j ≤ 40 := hwf.2.2
  refine lv_aload_n hx hb dX4_rub_0 rfl (lv_at hl 0 rfl) ?_
  refine lv_iconst (v := nI 0) hx hb dX4_rub_1 (by decide) ?_
  refine m_put (ci := 4) (C := RX4) (T := TX4) (N' := 16) (ty := .int) hx hb hts (by decide +kernel) tyX4 tyX4_ok nmX4 hown hE hI 50 (by omega) h50 rfl 0 (by decide) (hts (.fieldLink RX4 29 "TapePrinterModel" "thrown" "I") (by decide +kernel)) rfl (by decide +kernel) rfl rfl (Nat.le_of_ble_eq_true rfl) dX4_rub_2 (fun H locs hI => ?_)
  obtain ⟨g1, hg1⟩ : ∃ zz, zz = va_up g 50 (.inr (4, [.int (nI 0), .int (bI fig), .int (bI uns), .int (nI play), .int (nI u), .ref (ad 51), .ref (ad 52), .ref (ad 53), .ref (ad 54), .ref (ad 55), .int (nI n), .int (nI rd), .int (nI came), .int mis, .int lost, .int bel])) := ⟨_, rfl⟩
  replace hI : mI k ad N g1 (mA ad N s.heap.size) s H locs := by rw [hg1]; exact hI
  have m_1 : g1 50 = .inr (4, [.int (nI 0), .int (bI fig), .int (bI uns), .int (nI play), .int (nI u), .ref (ad 51), .ref (ad 52), .ref (ad 53), .ref (ad 54), .ref (ad 55), .int (nI n), .int (nI rd), .int (nI came), .int mis, .int lost, .int bel]) := by rw [hg1, va_up_self]
  have m_2 : g1 51 = .inl (k.2.1.1, 20, .inl (fun j => nI (ln j))) := by rw [hg1, va_up_ne _ _ (by omega)]; exact h51
  have m_3 : g1 52 = .inl (k.2.1.1, 800, .inl (fun j => nI (pg j))) := by rw [hg1, va_up_ne _ _ (by omega)]; exact h52
  have m_4 : g1 53 = .inl (k.2.1.1, 16, .inl lat) := by rw [hg1, va_up_ne _ _ (by omega)]; exact h53
  have m_5 : g1 54 = .inl (k.2.1.1, 16, .inl (fun j => nI (gar j))) := by rw [hg1, va_up_ne _ _ (by omega)]; exact h54
  have m_6 : g1 55 = .inl (k.2.1.1, 120, .inl (fun j => nI (T j))) := by rw [hg1, va_up_ne _ _ (by omega)]; exact h55
  refine lv_aload_n hx hb dX4_rub_5 rfl (lv_at hl 0 rfl) ?_
  refine lv_iload_n hx hb dX4_rub_6 rfl (lv_at hl 1 rfl) ?_
  refine m_callVi (As := [.int p0]) (rest := []) ⟨hx, hb, hml, hown, hts⟩ hE hI (c_X4_isPlace k l ad N g1 _ 0 uns play rd n lat gar T came mis lost bel fig u ln pg p0 (by omega) hW hwf (by omega) ⟨m_1, m_2, m_3, m_4, m_5, m_6⟩ ) (cwV 1 hts gX4_rub_X4_isPlace rfl rfl rfl (by decide +kernel) ⟨Nat.le_of_ble_eq_true rfl, Nat.le_of_ble_eq_true rfl⟩) (i := 50) (by omega) m_1 rfl rfl hl.1 rfl (Nat.le_of_ble_eq_true rfl) dX4_rub_7 ⟨Nat.le_of_ble_eq_true rfl, Nat.le_of_ble_eq_true rfl⟩ (m_deti (fun H locs hI => ?_))
  refine m_zneB (tgt := 19) hx hb dX4_rub_10 (by decide) (fun c_10 => ?_) (fun c_10 => ?_)
  · obtain ⟨j, hj, rfl⟩ := inN_ex c_10 (by omega)
    have htnj := tn_nI (j := j) (by omega)
    have hl : lv_has ls 3 [(0, .ref (ad 50)), (1, .int (nI j))] := hl
    refine lv_aload_n hx hb dX4_rub_19 rfl (lv_at hl 0 rfl) ?_
    refine m_get (ci := 4) (C := RX4) (T := TX4) (N' := 16) hx hb hts (by decide +kernel) hown hE hI 50 (by omega) m_1 rfl 9 (by decide) (hts (.fieldLink RX4 26 "TapePrinterModel" "tape" "[I") (by decide +kernel)) rfl dX4_rub_20 ?_
    refine lv_iload_n hx hb dX4_rub_23 rfl (lv_at hl 1 rfl) ?_
    refine m_iald hx hb hE hI 55 (by omega) (j := j) m_6 (by omega) (by omega) dX4_rub_24 ?_
    refine m_top (show (fun j => nI (T j)) j = nI (T j) from rfl) ?_
    have ht_7 := hT j
    refine lv_istore_n (lv' := [(2, .int (nI (T j))), (0, .ref (ad 50)), (1, .int (nI j))]) hx hb dX4_rub_25 rfl hl (by decide) rfl (fun ls hl => ?_)
    refine lv_aload_n hx hb dX4_rub_26 rfl (lv_at hl 1 rfl) ?_
    refine m_get (ci := 4) (C := RX4) (T := TX4) (N' := 16) hx hb hts (by decide +kernel) hown hE hI 50 (by omega) m_1 rfl 9 (by decide) (hts (.fieldLink RX4 26 "TapePrinterModel" "tape" "[I") (by decide +kernel)) rfl dX4_rub_27 ?_
    refine lv_iload_n hx hb dX4_rub_30 rfl (lv_at hl 2 rfl) ?_
    refine lv_bipush (v := nI 31) hx hb dX4_rub_31 (by decide) ?_
    refine m_iast hx hb hE hI 55 (by omega) (j := j) m_6 (by omega) (by omega) dX4_rub_33 (fun H locs hI => ?_)
    obtain ⟨g2, hg2⟩ : ∃ zz, zz = va_up g1 55 (.inl (k.2.1.1, 120, .inl (upd (fun j => nI (T j)) j (nI 31)))) := ⟨_, rfl⟩
    replace hI : mI k ad N g2 (mA ad N s.heap.size) s H locs := by rw [hg2]; exact hI
    have m_8 : g2 50 = .inr (4, [.int (nI 0), .int (bI fig), .int (bI uns), .int (nI play), .int (nI u), .ref (ad 51), .ref (ad 52), .ref (ad 53), .ref (ad 54), .ref (ad 55), .int (nI n), .int (nI rd), .int (nI came), .int mis, .int lost, .int bel]) := by rw [hg2, va_up_ne _ _ (by omega)]; exact m_1
    have m_9 : g2 51 = .inl (k.2.1.1, 20, .inl (fun j => nI (ln j))) := by rw [hg2, va_up_ne _ _ (by omega)]; exact m_2
    have m_10 : g2 52 = .inl (k.2.1.1, 800, .inl (fun j => nI (pg j))) := by rw [hg2, va_up_ne _ _ (by omega)]; exact m_3
    have m_11 : g2 53 = .inl (k.2.1.1, 16, .inl lat) := by rw [hg2, va_up_ne _ _ (by omega)]; exact m_4
    have m_12 : g2 54 = .inl (k.2.1.1, 16, .inl (fun j => nI (gar j))) := by rw [hg2, va_up_ne _ _ (by omega)]; exact m_5
    have m_13 : g2 55 = .inl (k.2.1.1, 120, .inl (upd (fun j => nI (T j)) j (nI 31))) := by rw [hg2, va_up_self]
    refine lv_iload_n hx hb dX4_rub_34 rfl (lv_at hl 0 rfl) ?_
    exact m_iret hx hb hr hlocks hI (⟨Or.inl (⟨c_10, by rw [htnj], by rw [htnj]; exact ⟨m_8, m_9, m_10, m_11, m_12, by rw [m_13, upd_nI]⟩⟩), fun i hi => by rw [hg2, va_up_ne _ _ (by omega), hg1, va_up_ne _ _ (by omega)]⟩) dX4_rub_35
  · refine lv_aload_n hx hb dX4_rub_13 rfl (lv_at hl 0 rfl) ?_
    refine lv_iconst (v := nI 1) hx hb dX4_rub_14 (by decide) ?_
    refine m_callVi (As := [.int (nI 1)]) (rest := []) ⟨hx, hb, hml, hown, hts⟩ hE hI (c_X4_fail k l ad N g1 _ 0 uns play rd n lat gar T came mis lost bel fig u ln pg 1 (by omega) hW hwf (by omega) ⟨m_1, m_2, m_3, m_4, m_5, m_6⟩ ) (cwV 1 hts gX4_rub_X4_fail rfl rfl rfl (by decide +kernel) ⟨Nat.le_of_ble_eq_true rfl, Nat.le_of_ble_eq_true rfl⟩) (i := 50) (by omega) m_1 rfl rfl hl.1 rfl (Nat.le_of_ble_eq_true rfl) dX4_rub_15 ⟨Nat.le_of_ble_eq_true rfl, Nat.le_of_ble_eq_true rfl⟩ (m_deti (fun H locs hI => ?_))
    obtain ⟨g3, hg3⟩ : ∃ zz, zz = va_up g1 50 (.inr (4, [.int (nI 1), .int (bI fig), .int (bI uns), .int (nI play), .int (nI u), .ref (ad 51), .ref (ad 52), .ref (ad 53), .ref (ad 54), .ref (ad 55), .int (nI n), .int (nI rd), .int (nI came), .int mis, .int lost, .int bel])) := ⟨_, rfl⟩
    replace hI : mI k ad N g3 (mA ad N s.heap.size) s H locs := by rw [hg3]; exact hI
    have m_14 : g3 50 = .inr (4, [.int (nI 1), .int (bI fig), .int (bI uns), .int (nI play), .int (nI u), .ref (ad 51), .ref (ad 52), .ref (ad 53), .ref (ad 54), .ref (ad 55), .int (nI n), .int (nI rd), .int (nI came), .int mis, .int lost, .int bel]) := by rw [hg3, va_up_self]
    have m_15 : g3 51 = .inl (k.2.1.1, 20, .inl (fun j => nI (ln j))) := by rw [hg3, va_up_ne _ _ (by omega)]; exact m_2
    have m_16 : g3 52 = .inl (k.2.1.1, 800, .inl (fun j => nI (pg j))) := by rw [hg3, va_up_ne _ _ (by omega)]; exact m_3
    have m_17 : g3 53 = .inl (k.2.1.1, 16, .inl lat) := by rw [hg3, va_up_ne _ _ (by omega)]; exact m_4
    have m_18 : g3 54 = .inl (k.2.1.1, 16, .inl (fun j => nI (gar j))) := by rw [hg3, va_up_ne _ _ (by omega)]; exact m_5
    have m_19 : g3 55 = .inl (k.2.1.1, 120, .inl (fun j => nI (T j))) := by rw [hg3, va_up_ne _ _ (by omega)]; exact m_6
    exact m_iret hx hb hr hlocks hI (⟨Or.inr (⟨c_10, ⟨m_14, m_15, m_16, m_17, m_18, m_19⟩⟩), fun i hi => by rw [hg3, va_up_ne _ _ (by omega), hg1, va_up_ne _ _ (by omega)]⟩) dX4_rub_18
set_option maxHeartbeats 8000000 in
set_option maxRecDepth 100000 in
theorem c_X4_tape (k : mC) (l : Launch) (ad : Nat → Nat) (N : Nat) (g : Nat → va_E) (sz : Nat) (th : Nat) (uns : Bool) (play rd n : Nat) (lat : Nat → Int32) (gar T : Nat → Nat) (came : Nat) (mis lost bel : Int32) (fig : Bool) (u : Nat) (ln pg : Nat → Nat) (p0 : Int32) (hN : 56 ≤ N) (hW : CW play rd n lat gar T) (hwf : mWf (u, ln, pg)) (hcame : came < 2000000000) (hM0 : MR k ad g th uns play rd n lat gar T (came, mis, lost, bel, fig, u, ln, pg))  : mCi k l yX4_tape wsX4_tape { frames := 2, cells := 0, slots := 0, locals := 43 } ad N g sz [.ref (ad 50), .int p0] (fun r1 g1 => ((inN p0 n = true ∧ r1 = nI (T (tn p0)) ∧ MR k ad g1 0 uns play rd n lat gar T (came, mis, lost, bel, fig, u, ln, pg)) ∨ (inN p0 n = false ∧ MR k ad g1 1 uns play rd n lat gar T (came, mis, lost, bel, fig, u, ln, pg))) ∧ ∀ i, (i < 50 ∨ 56 ≤ i) → g1 i = g i) := by
  refine mOf (Qc := fun z9 => va_Qi (fun r1 g1 => ((inN p0 n = true ∧ r1 = nI (T (tn p0)) ∧ MR k ad g1 0 uns play rd n lat gar T (came, mis, lost, bel, fig, u, ln, pg)) ∨ (inN p0 n = false ∧ MR k ad g1 1 uns play rd n lat gar T (came, mis, lost, bel, fig, u, ln, pg))) ∧ ∀ i, (i < 50 ∨ 56 ≤ i) → g1 i = g i) (mB k ad N) (mA ad N z9)) (cc := cX4_tape) (maxL := 2) (ret := (some .int)) (by decide) rfl (Nat.le_of_ble_eq_true rfl) ?_
  intro p e s m below meth c hx hb hr hts hown hlocks hml hin hE hI ls hl
  have hl : lv_has ls 2 [(0, .ref (ad 50)), (1, .int p0)] := hl
  have h50 : g 50 = .inr (4, [.int (nI th), .int (bI fig), .int (bI uns), .int (nI play), .int (nI u), .ref (ad 51), .ref (ad 52), .ref (ad 53), .ref (ad 54), .ref (ad 55), .int (nI n), .int (nI rd), .int (nI came), .int mis, .int lost, .int bel]) := hM0.1
  have h51 : g 51 = .inl (k.2.1.1, 20, .inl (fun j => nI (ln j))) := hM0.2.1
  have h52 : g 52 = .inl (k.2.1.1, 800, .inl (fun j => nI (pg j))) := hM0.2.2.1
  have h53 : g 53 = .inl (k.2.1.1, 16, .inl lat) := hM0.2.2.2.1
  have h54 : g 54 = .inl (k.2.1.1, 16, .inl (fun j => nI (gar j))) := hM0.2.2.2.2.1
  have h55 : g 55 = .inl (k.2.1.1, 120, .inl (fun j => nI (T j))) := hM0.2.2.2.2.2
  obtain ⟨hplay, hrd, hn, hgar, hT, hlat⟩ := id hW
  have hu0 : 0 < u := hwf.1
  have hu : u ≤ 20 := hwf.2.1
  have hln : ∀ j, j < 20 → ln j ≤ 40 := hwf.2.2
  refine lv_aload_n hx hb dX4_tape_0 rfl (lv_at hl 0 rfl) ?_
  refine lv_iconst (v := nI 0) hx hb dX4_tape_1 (by decide) ?_
  refine m_put (ci := 4) (C := RX4) (T := TX4) (N' := 16) (ty := .int) hx hb hts (by decide +kernel) tyX4 tyX4_ok nmX4 hown hE hI 50 (by omega) h50 rfl 0 (by decide) (hts (.fieldLink RX4 29 "TapePrinterModel" "thrown" "I") (by decide +kernel)) rfl (by decide +kernel) rfl rfl (Nat.le_of_ble_eq_true rfl) dX4_tape_2 (fun H locs hI => ?_)
  obtain ⟨g1, hg1⟩ : ∃ zz, zz = va_up g 50 (.inr (4, [.int (nI 0), .int (bI fig), .int (bI uns), .int (nI play), .int (nI u), .ref (ad 51), .ref (ad 52), .ref (ad 53), .ref (ad 54), .ref (ad 55), .int (nI n), .int (nI rd), .int (nI came), .int mis, .int lost, .int bel])) := ⟨_, rfl⟩
  replace hI : mI k ad N g1 (mA ad N s.heap.size) s H locs := by rw [hg1]; exact hI
  have m_1 : g1 50 = .inr (4, [.int (nI 0), .int (bI fig), .int (bI uns), .int (nI play), .int (nI u), .ref (ad 51), .ref (ad 52), .ref (ad 53), .ref (ad 54), .ref (ad 55), .int (nI n), .int (nI rd), .int (nI came), .int mis, .int lost, .int bel]) := by rw [hg1, va_up_self]
  have m_2 : g1 51 = .inl (k.2.1.1, 20, .inl (fun j => nI (ln j))) := by rw [hg1, va_up_ne _ _ (by omega)]; exact h51
  have m_3 : g1 52 = .inl (k.2.1.1, 800, .inl (fun j => nI (pg j))) := by rw [hg1, va_up_ne _ _ (by omega)]; exact h52
  have m_4 : g1 53 = .inl (k.2.1.1, 16, .inl lat) := by rw [hg1, va_up_ne _ _ (by omega)]; exact h53
  have m_5 : g1 54 = .inl (k.2.1.1, 16, .inl (fun j => nI (gar j))) := by rw [hg1, va_up_ne _ _ (by omega)]; exact h54
  have m_6 : g1 55 = .inl (k.2.1.1, 120, .inl (fun j => nI (T j))) := by rw [hg1, va_up_ne _ _ (by omega)]; exact h55
  refine lv_aload_n hx hb dX4_tape_5 rfl (lv_at hl 0 rfl) ?_
  refine lv_iload_n hx hb dX4_tape_6 rfl (lv_at hl 1 rfl) ?_
  refine m_callVi (As := [.int p0]) (rest := []) ⟨hx, hb, hml, hown, hts⟩ hE hI (c_X4_isPlace k l ad N g1 _ 0 uns play rd n lat gar T came mis lost bel fig u ln pg p0 (by omega) hW hwf (by omega) ⟨m_1, m_2, m_3, m_4, m_5, m_6⟩ ) (cwV 1 hts gX4_tape_X4_isPlace rfl rfl rfl (by decide +kernel) ⟨Nat.le_of_ble_eq_true rfl, Nat.le_of_ble_eq_true rfl⟩) (i := 50) (by omega) m_1 rfl rfl hl.1 rfl (Nat.le_of_ble_eq_true rfl) dX4_tape_7 ⟨Nat.le_of_ble_eq_true rfl, Nat.le_of_ble_eq_true rfl⟩ (m_deti (fun H locs hI => ?_))
  refine m_zeqB (tgt := 22) hx hb dX4_tape_10 (by decide) (fun c_10 => ?_) (fun c_10 => ?_)
  · refine lv_aload_n hx hb dX4_tape_22 rfl (lv_at hl 0 rfl) ?_
    refine lv_iconst (v := nI 1) hx hb dX4_tape_23 (by decide) ?_
    refine m_callVi (As := [.int (nI 1)]) (rest := []) ⟨hx, hb, hml, hown, hts⟩ hE hI (c_X4_fail k l ad N g1 _ 0 uns play rd n lat gar T came mis lost bel fig u ln pg 1 (by omega) hW hwf (by omega) ⟨m_1, m_2, m_3, m_4, m_5, m_6⟩ ) (cwV 1 hts gX4_tape_X4_fail rfl rfl rfl (by decide +kernel) ⟨Nat.le_of_ble_eq_true rfl, Nat.le_of_ble_eq_true rfl⟩) (i := 50) (by omega) m_1 rfl rfl hl.1 rfl (Nat.le_of_ble_eq_true rfl) dX4_tape_24 ⟨Nat.le_of_ble_eq_true rfl, Nat.le_of_ble_eq_true rfl⟩ (m_deti (fun H locs hI => ?_))
    obtain ⟨g2, hg2⟩ : ∃ zz, zz = va_up g1 50 (.inr (4, [.int (nI 1), .int (bI fig), .int (bI uns), .int (nI play), .int (nI u), .ref (ad 51), .ref (ad 52), .ref (ad 53), .ref (ad 54), .ref (ad 55), .int (nI n), .int (nI rd), .int (nI came), .int mis, .int lost, .int bel])) := ⟨_, rfl⟩
    replace hI : mI k ad N g2 (mA ad N s.heap.size) s H locs := by rw [hg2]; exact hI
    have m_7 : g2 50 = .inr (4, [.int (nI 1), .int (bI fig), .int (bI uns), .int (nI play), .int (nI u), .ref (ad 51), .ref (ad 52), .ref (ad 53), .ref (ad 54), .ref (ad 55), .int (nI n), .int (nI rd), .int (nI came), .int mis, .int lost, .int bel]) := by rw [hg2, va_up_self]
    have m_8 : g2 51 = .inl (k.2.1.1, 20, .inl (fun j => nI (ln j))) := by rw [hg2, va_up_ne _ _ (by omega)]; exact m_2
    have m_9 : g2 52 = .inl (k.2.1.1, 800, .inl (fun j => nI (pg j))) := by rw [hg2, va_up_ne _ _ (by omega)]; exact m_3
    have m_10 : g2 53 = .inl (k.2.1.1, 16, .inl lat) := by rw [hg2, va_up_ne _ _ (by omega)]; exact m_4
    have m_11 : g2 54 = .inl (k.2.1.1, 16, .inl (fun j => nI (gar j))) := by rw [hg2, va_up_ne _ _ (by omega)]; exact m_5
    have m_12 : g2 55 = .inl (k.2.1.1, 120, .inl (fun j => nI (T j))) := by rw [hg2, va_up_ne _ _ (by omega)]; exact m_6
    exact m_iret hx hb hr hlocks hI (⟨Or.inr (⟨c_10, ⟨m_7, m_8, m_9, m_10, m_11, m_12⟩⟩), fun i hi => by rw [hg2, va_up_ne _ _ (by omega), hg1, va_up_ne _ _ (by omega)]⟩) dX4_tape_27
  · obtain ⟨j, hj, rfl⟩ := inN_ex c_10 (by omega)
    have htnj := tn_nI (j := j) (by omega)
    have hl : lv_has ls 2 [(0, .ref (ad 50)), (1, .int (nI j))] := hl
    refine lv_aload_n hx hb dX4_tape_13 rfl (lv_at hl 0 rfl) ?_
    refine m_get (ci := 4) (C := RX4) (T := TX4) (N' := 16) hx hb hts (by decide +kernel) hown hE hI 50 (by omega) m_1 rfl 9 (by decide) (hts (.fieldLink RX4 26 "TapePrinterModel" "tape" "[I") (by decide +kernel)) rfl dX4_tape_14 ?_
    refine lv_iload_n hx hb dX4_tape_17 rfl (lv_at hl 1 rfl) ?_
    refine m_iald hx hb hE hI 55 (by omega) (j := j) m_6 (by omega) (by omega) dX4_tape_18 ?_
    refine m_top (show (fun j => nI (T j)) j = nI (T j) from rfl) ?_
    have ht_13 := hT j
    refine lv_goto (tgt := 27) hx hb dX4_tape_19 (by decide) ?_
    exact m_iret hx hb hr hlocks hI (⟨Or.inl (⟨c_10, by rw [htnj], ⟨m_1, m_2, m_3, m_4, m_5, m_6⟩⟩), fun i hi => by rw [hg1, va_up_ne _ _ (by omega)]⟩) dX4_tape_27
set_option maxHeartbeats 8000000 in
set_option maxRecDepth 100000 in
theorem c_X4_prints (k : mC) (l : Launch) (ad : Nat → Nat) (N : Nat) (g : Nat → va_E) (sz : Nat) (th : Nat) (uns : Bool) (play rd n : Nat) (lat : Nat → Int32) (gar T : Nat → Nat) (came : Nat) (mis lost bel : Int32) (fig : Bool) (u : Nat) (ln pg : Nat → Nat) (p0 : Int32) (hN : 56 ≤ N) (hW : CW play rd n lat gar T) (hwf : mWf (u, ln, pg)) (hcame : came < 2000000000) (hM0 : MR k ad g th uns play rd n lat gar T (came, mis, lost, bel, fig, u, ln, pg))  : mCi k l yX4_prints wsX4_prints { frames := 2, cells := 0, slots := 0, locals := 45 } ad N g sz [.ref (ad 50), .int p0] (fun r1 g1 => ((inN p0 n = true ∧ r1 = nI (chF (T (tn p0)) (fa uns T (tn p0))) ∧ MR k ad g1 0 uns play rd n lat gar T (came, mis, lost, bel, fig, u, ln, pg)) ∨ (inN p0 n = false ∧ MR k ad g1 1 uns play rd n lat gar T (came, mis, lost, bel, fig, u, ln, pg))) ∧ ∀ i, (i < 50 ∨ 56 ≤ i) → g1 i = g i) := by
  refine mOf (Qc := fun z9 => va_Qi (fun r1 g1 => ((inN p0 n = true ∧ r1 = nI (chF (T (tn p0)) (fa uns T (tn p0))) ∧ MR k ad g1 0 uns play rd n lat gar T (came, mis, lost, bel, fig, u, ln, pg)) ∨ (inN p0 n = false ∧ MR k ad g1 1 uns play rd n lat gar T (came, mis, lost, bel, fig, u, ln, pg))) ∧ ∀ i, (i < 50 ∨ 56 ≤ i) → g1 i = g i) (mB k ad N) (mA ad N z9)) (cc := cX4_prints) (maxL := 2) (ret := (some .int)) (by decide) rfl (Nat.le_of_ble_eq_true rfl) ?_
  intro p e s m below meth c hx hb hr hts hown hlocks hml hin hE hI ls hl
  have hl : lv_has ls 2 [(0, .ref (ad 50)), (1, .int p0)] := hl
  have h50 : g 50 = .inr (4, [.int (nI th), .int (bI fig), .int (bI uns), .int (nI play), .int (nI u), .ref (ad 51), .ref (ad 52), .ref (ad 53), .ref (ad 54), .ref (ad 55), .int (nI n), .int (nI rd), .int (nI came), .int mis, .int lost, .int bel]) := hM0.1
  have h51 : g 51 = .inl (k.2.1.1, 20, .inl (fun j => nI (ln j))) := hM0.2.1
  have h52 : g 52 = .inl (k.2.1.1, 800, .inl (fun j => nI (pg j))) := hM0.2.2.1
  have h53 : g 53 = .inl (k.2.1.1, 16, .inl lat) := hM0.2.2.2.1
  have h54 : g 54 = .inl (k.2.1.1, 16, .inl (fun j => nI (gar j))) := hM0.2.2.2.2.1
  have h55 : g 55 = .inl (k.2.1.1, 120, .inl (fun j => nI (T j))) := hM0.2.2.2.2.2
  obtain ⟨hplay, hrd, hn, hgar, hT, hlat⟩ := id hW
  have hu0 : 0 < u := hwf.1
  have hu : u ≤ 20 := hwf.2.1
  have hln : ∀ j, j < 20 → ln j ≤ 40 := hwf.2.2
  refine lv_aload_n hx hb dX4_prints_0 rfl (lv_at hl 0 rfl) ?_
  refine lv_iconst (v := nI 0) hx hb dX4_prints_1 (by decide) ?_
  refine m_put (ci := 4) (C := RX4) (T := TX4) (N' := 16) (ty := .int) hx hb hts (by decide +kernel) tyX4 tyX4_ok nmX4 hown hE hI 50 (by omega) h50 rfl 0 (by decide) (hts (.fieldLink RX4 29 "TapePrinterModel" "thrown" "I") (by decide +kernel)) rfl (by decide +kernel) rfl rfl (Nat.le_of_ble_eq_true rfl) dX4_prints_2 (fun H locs hI => ?_)
  obtain ⟨g1, hg1⟩ : ∃ zz, zz = va_up g 50 (.inr (4, [.int (nI 0), .int (bI fig), .int (bI uns), .int (nI play), .int (nI u), .ref (ad 51), .ref (ad 52), .ref (ad 53), .ref (ad 54), .ref (ad 55), .int (nI n), .int (nI rd), .int (nI came), .int mis, .int lost, .int bel])) := ⟨_, rfl⟩
  replace hI : mI k ad N g1 (mA ad N s.heap.size) s H locs := by rw [hg1]; exact hI
  have m_1 : g1 50 = .inr (4, [.int (nI 0), .int (bI fig), .int (bI uns), .int (nI play), .int (nI u), .ref (ad 51), .ref (ad 52), .ref (ad 53), .ref (ad 54), .ref (ad 55), .int (nI n), .int (nI rd), .int (nI came), .int mis, .int lost, .int bel]) := by rw [hg1, va_up_self]
  have m_2 : g1 51 = .inl (k.2.1.1, 20, .inl (fun j => nI (ln j))) := by rw [hg1, va_up_ne _ _ (by omega)]; exact h51
  have m_3 : g1 52 = .inl (k.2.1.1, 800, .inl (fun j => nI (pg j))) := by rw [hg1, va_up_ne _ _ (by omega)]; exact h52
  have m_4 : g1 53 = .inl (k.2.1.1, 16, .inl lat) := by rw [hg1, va_up_ne _ _ (by omega)]; exact h53
  have m_5 : g1 54 = .inl (k.2.1.1, 16, .inl (fun j => nI (gar j))) := by rw [hg1, va_up_ne _ _ (by omega)]; exact h54
  have m_6 : g1 55 = .inl (k.2.1.1, 120, .inl (fun j => nI (T j))) := by rw [hg1, va_up_ne _ _ (by omega)]; exact h55
  refine lv_aload_n hx hb dX4_prints_5 rfl (lv_at hl 0 rfl) ?_
  refine lv_iload_n hx hb dX4_prints_6 rfl (lv_at hl 1 rfl) ?_
  refine m_callVi (As := [.int p0]) (rest := []) ⟨hx, hb, hml, hown, hts⟩ hE hI (c_X4_isPlace k l ad N g1 _ 0 uns play rd n lat gar T came mis lost bel fig u ln pg p0 (by omega) hW hwf (by omega) ⟨m_1, m_2, m_3, m_4, m_5, m_6⟩ ) (cwV 1 hts gX4_prints_X4_isPlace rfl rfl rfl (by decide +kernel) ⟨Nat.le_of_ble_eq_true rfl, Nat.le_of_ble_eq_true rfl⟩) (i := 50) (by omega) m_1 rfl rfl hl.1 rfl (Nat.le_of_ble_eq_true rfl) dX4_prints_7 ⟨Nat.le_of_ble_eq_true rfl, Nat.le_of_ble_eq_true rfl⟩ (m_deti (fun H locs hI => ?_))
  refine m_zeqB (tgt := 30) hx hb dX4_prints_10 (by decide) (fun c_10 => ?_) (fun c_10 => ?_)
  · refine lv_aload_n hx hb dX4_prints_30 rfl (lv_at hl 0 rfl) ?_
    refine lv_iconst (v := nI 1) hx hb dX4_prints_31 (by decide) ?_
    refine m_callVi (As := [.int (nI 1)]) (rest := []) ⟨hx, hb, hml, hown, hts⟩ hE hI (c_X4_fail k l ad N g1 _ 0 uns play rd n lat gar T came mis lost bel fig u ln pg 1 (by omega) hW hwf (by omega) ⟨m_1, m_2, m_3, m_4, m_5, m_6⟩ ) (cwV 1 hts gX4_prints_X4_fail rfl rfl rfl (by decide +kernel) ⟨Nat.le_of_ble_eq_true rfl, Nat.le_of_ble_eq_true rfl⟩) (i := 50) (by omega) m_1 rfl rfl hl.1 rfl (Nat.le_of_ble_eq_true rfl) dX4_prints_32 ⟨Nat.le_of_ble_eq_true rfl, Nat.le_of_ble_eq_true rfl⟩ (m_deti (fun H locs hI => ?_))
    obtain ⟨g2, hg2⟩ : ∃ zz, zz = va_up g1 50 (.inr (4, [.int (nI 1), .int (bI fig), .int (bI uns), .int (nI play), .int (nI u), .ref (ad 51), .ref (ad 52), .ref (ad 53), .ref (ad 54), .ref (ad 55), .int (nI n), .int (nI rd), .int (nI came), .int mis, .int lost, .int bel])) := ⟨_, rfl⟩
    replace hI : mI k ad N g2 (mA ad N s.heap.size) s H locs := by rw [hg2]; exact hI
    have m_7 : g2 50 = .inr (4, [.int (nI 1), .int (bI fig), .int (bI uns), .int (nI play), .int (nI u), .ref (ad 51), .ref (ad 52), .ref (ad 53), .ref (ad 54), .ref (ad 55), .int (nI n), .int (nI rd), .int (nI came), .int mis, .int lost, .int bel]) := by rw [hg2, va_up_self]
    have m_8 : g2 51 = .inl (k.2.1.1, 20, .inl (fun j => nI (ln j))) := by rw [hg2, va_up_ne _ _ (by omega)]; exact m_2
    have m_9 : g2 52 = .inl (k.2.1.1, 800, .inl (fun j => nI (pg j))) := by rw [hg2, va_up_ne _ _ (by omega)]; exact m_3
    have m_10 : g2 53 = .inl (k.2.1.1, 16, .inl lat) := by rw [hg2, va_up_ne _ _ (by omega)]; exact m_4
    have m_11 : g2 54 = .inl (k.2.1.1, 16, .inl (fun j => nI (gar j))) := by rw [hg2, va_up_ne _ _ (by omega)]; exact m_5
    have m_12 : g2 55 = .inl (k.2.1.1, 120, .inl (fun j => nI (T j))) := by rw [hg2, va_up_ne _ _ (by omega)]; exact m_6
    exact m_iret hx hb hr hlocks hI (⟨Or.inr (⟨c_10, ⟨m_7, m_8, m_9, m_10, m_11, m_12⟩⟩), fun i hi => by rw [hg2, va_up_ne _ _ (by omega), hg1, va_up_ne _ _ (by omega)]⟩) dX4_prints_35
  · obtain ⟨j, hj, rfl⟩ := inN_ex c_10 (by omega)
    have htnj := tn_nI (j := j) (by omega)
    have hl : lv_has ls 2 [(0, .ref (ad 50)), (1, .int (nI j))] := hl
    refine lv_aload_n hx hb dX4_prints_13 rfl (lv_at hl 0 rfl) ?_
    refine m_get (ci := 4) (C := RX4) (T := TX4) (N' := 16) hx hb hts (by decide +kernel) hown hE hI 50 (by omega) m_1 rfl 9 (by decide) (hts (.fieldLink RX4 26 "TapePrinterModel" "tape" "[I") (by decide +kernel)) rfl dX4_prints_14 ?_
    refine lv_iload_n hx hb dX4_prints_17 rfl (lv_at hl 1 rfl) ?_
    refine m_iald hx hb hE hI 55 (by omega) (j := j) m_6 (by omega) (by omega) dX4_prints_18 ?_
    refine m_top (show (fun j => nI (T j)) j = nI (T j) from rfl) ?_
    have ht_13 := hT j
    refine lv_aload_n hx hb dX4_prints_19 rfl (lv_at hl 0 rfl) ?_
    refine lv_iload_n hx hb dX4_prints_20 rfl (lv_at hl 1 rfl) ?_
    refine m_callVi (As := [.int (nI j)]) (rest := [.int (nI (T j))]) ⟨hx, hb, hml, hown, hts⟩ hE hI (c_X4_shiftAt k l ad N g1 _ 0 uns play rd n lat gar T came mis lost bel fig u ln pg j (by omega) hW hwf (by omega) ⟨m_1, m_2, m_3, m_4, m_5, m_6⟩ (by omega)) (cwV 1 hts gX4_prints_X4_shiftAt rfl rfl rfl (by decide +kernel) ⟨Nat.le_of_ble_eq_true rfl, Nat.le_of_ble_eq_true rfl⟩) (i := 50) (by omega) m_1 rfl rfl hl.1 rfl (Nat.le_of_ble_eq_true rfl) dX4_prints_21 ⟨Nat.le_of_ble_eq_true rfl, Nat.le_of_ble_eq_true rfl⟩ (m_deti (fun H locs hI => ?_))
    refine m_callSi (As := [.int (nI (T j)), .int (bI (fa uns T j))]) (rest := []) ⟨hx, hb, hml, hown, hts⟩ hE hI (c_X4_characterOf k l ad N g1 _ (T j) (fa uns T j) (hT _)) (va_cwS 2 hts gX4_prints_X4_characterOf rfl rfl rfl (by decide +kernel) ⟨Nat.le_of_ble_eq_true rfl, Nat.le_of_ble_eq_true rfl⟩) rfl hl.1 rfl (Nat.le_of_ble_eq_true rfl) dX4_prints_24 ⟨Nat.le_of_ble_eq_true rfl, Nat.le_of_ble_eq_true rfl⟩ (m_deti (fun H locs hI => ?_))
    refine lv_goto (tgt := 35) hx hb dX4_prints_27 (by decide) ?_
    exact m_iret hx hb hr hlocks hI (⟨Or.inl (⟨c_10, by rw [htnj], ⟨m_1, m_2, m_3, m_4, m_5, m_6⟩⟩), fun i hi => by rw [hg1, va_up_ne _ _ (by omega)]⟩) dX4_prints_35
set_option maxHeartbeats 8000000 in
set_option maxRecDepth 100000 in
theorem c_X4_wind (k : mC) (l : Launch) (ad : Nat → Nat) (N : Nat) (g : Nat → va_E) (sz : Nat) (th : Nat) (uns : Bool) (play rd n : Nat) (lat : Nat → Int32) (gar T : Nat → Nat) (came : Nat) (mis lost bel : Int32) (fig : Bool) (u : Nat) (ln pg : Nat → Nat) (p0 : Int32) (hN : 56 ≤ N) (hW : CW play rd n lat gar T) (hwf : mWf (u, ln, pg)) (hcame : came < 2000000000) (hM0 : MR k ad g th uns play rd n lat gar T (came, mis, lost, bel, fig, u, ln, pg))  : mCi k l yX4_wind wsX4_wind { frames := 1, cells := 0, slots := 0, locals := 22 } ad N g sz [.ref (ad 50), .int p0] (fun r1 g1 => ((inN p0 (n + 1) = true ∧ r1 = nI rd ∧ MR k ad g1 0 uns play (tn p0) n lat gar T (came, mis, lost, bel, fig, u, ln, pg)) ∨ (inN p0 (n + 1) = false ∧ MR k ad g1 1 uns play rd n lat gar T (came, mis, lost, bel, fig, u, ln, pg))) ∧ ∀ i, (i < 50 ∨ 56 ≤ i) → g1 i = g i) := by
  refine mOf (Qc := fun z9 => va_Qi (fun r1 g1 => ((inN p0 (n + 1) = true ∧ r1 = nI rd ∧ MR k ad g1 0 uns play (tn p0) n lat gar T (came, mis, lost, bel, fig, u, ln, pg)) ∨ (inN p0 (n + 1) = false ∧ MR k ad g1 1 uns play rd n lat gar T (came, mis, lost, bel, fig, u, ln, pg))) ∧ ∀ i, (i < 50 ∨ 56 ≤ i) → g1 i = g i) (mB k ad N) (mA ad N z9)) (cc := cX4_wind) (maxL := 3) (ret := (some .int)) (by decide) rfl (Nat.le_of_ble_eq_true rfl) ?_
  intro p e s m below meth c hx hb hr hts hown hlocks hml hin hE hI ls hl
  have hl : lv_has ls 3 [(0, .ref (ad 50)), (1, .int p0)] := hl
  have h50 : g 50 = .inr (4, [.int (nI th), .int (bI fig), .int (bI uns), .int (nI play), .int (nI u), .ref (ad 51), .ref (ad 52), .ref (ad 53), .ref (ad 54), .ref (ad 55), .int (nI n), .int (nI rd), .int (nI came), .int mis, .int lost, .int bel]) := hM0.1
  have h51 : g 51 = .inl (k.2.1.1, 20, .inl (fun j => nI (ln j))) := hM0.2.1
  have h52 : g 52 = .inl (k.2.1.1, 800, .inl (fun j => nI (pg j))) := hM0.2.2.1
  have h53 : g 53 = .inl (k.2.1.1, 16, .inl lat) := hM0.2.2.2.1
  have h54 : g 54 = .inl (k.2.1.1, 16, .inl (fun j => nI (gar j))) := hM0.2.2.2.2.1
  have h55 : g 55 = .inl (k.2.1.1, 120, .inl (fun j => nI (T j))) := hM0.2.2.2.2.2
  obtain ⟨hplay, hrd, hn, hgar, hT, hlat⟩ := id hW
  have hu0 : 0 < u := hwf.1
  have hu : u ≤ 20 := hwf.2.1
  have hln : ∀ j, j < 20 → ln j ≤ 40 := hwf.2.2
  refine lv_aload_n hx hb dX4_wind_0 rfl (lv_at hl 0 rfl) ?_
  refine lv_iconst (v := nI 0) hx hb dX4_wind_1 (by decide) ?_
  refine m_put (ci := 4) (C := RX4) (T := TX4) (N' := 16) (ty := .int) hx hb hts (by decide +kernel) tyX4 tyX4_ok nmX4 hown hE hI 50 (by omega) h50 rfl 0 (by decide) (hts (.fieldLink RX4 29 "TapePrinterModel" "thrown" "I") (by decide +kernel)) rfl (by decide +kernel) rfl rfl (Nat.le_of_ble_eq_true rfl) dX4_wind_2 (fun H locs hI => ?_)
  obtain ⟨g1, hg1⟩ : ∃ zz, zz = va_up g 50 (.inr (4, [.int (nI 0), .int (bI fig), .int (bI uns), .int (nI play), .int (nI u), .ref (ad 51), .ref (ad 52), .ref (ad 53), .ref (ad 54), .ref (ad 55), .int (nI n), .int (nI rd), .int (nI came), .int mis, .int lost, .int bel])) := ⟨_, rfl⟩
  replace hI : mI k ad N g1 (mA ad N s.heap.size) s H locs := by rw [hg1]; exact hI
  have m_1 : g1 50 = .inr (4, [.int (nI 0), .int (bI fig), .int (bI uns), .int (nI play), .int (nI u), .ref (ad 51), .ref (ad 52), .ref (ad 53), .ref (ad 54), .ref (ad 55), .int (nI n), .int (nI rd), .int (nI came), .int mis, .int lost, .int bel]) := by rw [hg1, va_up_self]
  have m_2 : g1 51 = .inl (k.2.1.1, 20, .inl (fun j => nI (ln j))) := by rw [hg1, va_up_ne _ _ (by omega)]; exact h51
  have m_3 : g1 52 = .inl (k.2.1.1, 800, .inl (fun j => nI (pg j))) := by rw [hg1, va_up_ne _ _ (by omega)]; exact h52
  have m_4 : g1 53 = .inl (k.2.1.1, 16, .inl lat) := by rw [hg1, va_up_ne _ _ (by omega)]; exact h53
  have m_5 : g1 54 = .inl (k.2.1.1, 16, .inl (fun j => nI (gar j))) := by rw [hg1, va_up_ne _ _ (by omega)]; exact h54
  have m_6 : g1 55 = .inl (k.2.1.1, 120, .inl (fun j => nI (T j))) := by rw [hg1, va_up_ne _ _ (by omega)]; exact h55
  refine lv_iload_n hx hb dX4_wind_5 rfl (lv_at hl 1 rfl) ?_
  refine lv_iconst (v := nI 0) hx hb dX4_wind_6 (by decide) ?_
  refine lv_aload_n hx hb dX4_wind_7 rfl (lv_at hl 0 rfl) ?_
  refine m_get (ci := 4) (C := RX4) (T := TX4) (N' := 16) hx hb hts (by decide +kernel) hown hE hI 50 (by omega) m_1 rfl 10 (by decide) (hts (.fieldLink RX4 109 "TapePrinterModel" "codes" "I") (by decide +kernel)) rfl dX4_wind_8 ?_
  refine m_callSi (As := [.int p0, .int (nI 0), .int (nI n)]) (rest := []) ⟨hx, hb, hml, hown, hts⟩ hE hI (c_X4_isIn k l ad N g1 _ p0 (nI 0) (nI n)) (va_cwS 3 hts gX4_wind_X4_isIn rfl rfl rfl (by decide +kernel) ⟨Nat.le_of_ble_eq_true rfl, Nat.le_of_ble_eq_true rfl⟩) rfl hl.1 rfl (Nat.le_of_ble_eq_true rfl) dX4_wind_11 ⟨Nat.le_of_ble_eq_true rfl, Nat.le_of_ble_eq_true rfl⟩ (m_deti (fun H locs hI => ?_))
  refine m_top (show bI (decide (nI 0 ≤ p0) && decide (p0 ≤ nI n)) = bI (inN p0 (n + 1)) from by rw [isIn_N (by omega)]) ?_
  refine m_zneB (tgt := 23) hx hb dX4_wind_14 (by decide) (fun c_14 => ?_) (fun c_14 => ?_)
  · obtain ⟨j, hj, rfl⟩ := inN_ex c_14 (by omega)
    have htnj := tn_nI (j := j) (by omega)
    have hl : lv_has ls 3 [(0, .ref (ad 50)), (1, .int (nI j))] := hl
    refine lv_aload_n hx hb dX4_wind_23 rfl (lv_at hl 0 rfl) ?_
    refine m_get (ci := 4) (C := RX4) (T := TX4) (N' := 16) hx hb hts (by decide +kernel) hown hE hI 50 (by omega) m_1 rfl 11 (by decide) (hts (.fieldLink RX4 121 "TapePrinterModel" "reader" "I") (by decide +kernel)) rfl dX4_wind_24 ?_
    refine lv_istore_n (lv' := [(2, .int (nI rd)), (0, .ref (ad 50)), (1, .int (nI j))]) hx hb dX4_wind_27 rfl hl (by decide) rfl (fun ls hl => ?_)
    refine lv_aload_n hx hb dX4_wind_28 rfl (lv_at hl 1 rfl) ?_
    refine lv_iload_n hx hb dX4_wind_29 rfl (lv_at hl 2 rfl) ?_
    refine m_put (ci := 4) (C := RX4) (T := TX4) (N' := 16) (ty := .int) hx hb hts (by decide +kernel) tyX4 tyX4_ok nmX4 hown hE hI 50 (by omega) m_1 rfl 11 (by decide) (hts (.fieldLink RX4 121 "TapePrinterModel" "reader" "I") (by decide +kernel)) rfl (by decide +kernel) rfl rfl (Nat.le_of_ble_eq_true rfl) dX4_wind_30 (fun H locs hI => ?_)
    obtain ⟨g2, hg2⟩ : ∃ zz, zz = va_up g1 50 (.inr (4, [.int (nI 0), .int (bI fig), .int (bI uns), .int (nI play), .int (nI u), .ref (ad 51), .ref (ad 52), .ref (ad 53), .ref (ad 54), .ref (ad 55), .int (nI n), .int (nI j), .int (nI came), .int mis, .int lost, .int bel])) := ⟨_, rfl⟩
    replace hI : mI k ad N g2 (mA ad N s.heap.size) s H locs := by rw [hg2]; exact hI
    have m_7 : g2 50 = .inr (4, [.int (nI 0), .int (bI fig), .int (bI uns), .int (nI play), .int (nI u), .ref (ad 51), .ref (ad 52), .ref (ad 53), .ref (ad 54), .ref (ad 55), .int (nI n), .int (nI j), .int (nI came), .int mis, .int lost, .int bel]) := by rw [hg2, va_up_self]
    have m_8 : g2 51 = .inl (k.2.1.1, 20, .inl (fun j => nI (ln j))) := by rw [hg2, va_up_ne _ _ (by omega)]; exact m_2
    have m_9 : g2 52 = .inl (k.2.1.1, 800, .inl (fun j => nI (pg j))) := by rw [hg2, va_up_ne _ _ (by omega)]; exact m_3
    have m_10 : g2 53 = .inl (k.2.1.1, 16, .inl lat) := by rw [hg2, va_up_ne _ _ (by omega)]; exact m_4
    have m_11 : g2 54 = .inl (k.2.1.1, 16, .inl (fun j => nI (gar j))) := by rw [hg2, va_up_ne _ _ (by omega)]; exact m_5
    have m_12 : g2 55 = .inl (k.2.1.1, 120, .inl (fun j => nI (T j))) := by rw [hg2, va_up_ne _ _ (by omega)]; exact m_6
    refine lv_iload_n hx hb dX4_wind_33 rfl (lv_at hl 0 rfl) ?_
    exact m_iret hx hb hr hlocks hI (⟨Or.inl (⟨c_14, rfl, by rw [htnj]; exact ⟨m_7, m_8, m_9, m_10, m_11, m_12⟩⟩), fun i hi => by rw [hg2, va_up_ne _ _ (by omega), hg1, va_up_ne _ _ (by omega)]⟩) dX4_wind_34
  · refine lv_aload_n hx hb dX4_wind_17 rfl (lv_at hl 0 rfl) ?_
    refine lv_iconst (v := nI 1) hx hb dX4_wind_18 (by decide) ?_
    refine m_callVi (As := [.int (nI 1)]) (rest := []) ⟨hx, hb, hml, hown, hts⟩ hE hI (c_X4_fail k l ad N g1 _ 0 uns play rd n lat gar T came mis lost bel fig u ln pg 1 (by omega) hW hwf (by omega) ⟨m_1, m_2, m_3, m_4, m_5, m_6⟩ ) (cwV 1 hts gX4_wind_X4_fail rfl rfl rfl (by decide +kernel) ⟨Nat.le_of_ble_eq_true rfl, Nat.le_of_ble_eq_true rfl⟩) (i := 50) (by omega) m_1 rfl rfl hl.1 rfl (Nat.le_of_ble_eq_true rfl) dX4_wind_19 ⟨Nat.le_of_ble_eq_true rfl, Nat.le_of_ble_eq_true rfl⟩ (m_deti (fun H locs hI => ?_))
    obtain ⟨g3, hg3⟩ : ∃ zz, zz = va_up g1 50 (.inr (4, [.int (nI 1), .int (bI fig), .int (bI uns), .int (nI play), .int (nI u), .ref (ad 51), .ref (ad 52), .ref (ad 53), .ref (ad 54), .ref (ad 55), .int (nI n), .int (nI rd), .int (nI came), .int mis, .int lost, .int bel])) := ⟨_, rfl⟩
    replace hI : mI k ad N g3 (mA ad N s.heap.size) s H locs := by rw [hg3]; exact hI
    have m_13 : g3 50 = .inr (4, [.int (nI 1), .int (bI fig), .int (bI uns), .int (nI play), .int (nI u), .ref (ad 51), .ref (ad 52), .ref (ad 53), .ref (ad 54), .ref (ad 55), .int (nI n), .int (nI rd), .int (nI came), .int mis, .int lost, .int bel]) := by rw [hg3, va_up_self]
    have m_14 : g3 51 = .inl (k.2.1.1, 20, .inl (fun j => nI (ln j))) := by rw [hg3, va_up_ne _ _ (by omega)]; exact m_2
    have m_15 : g3 52 = .inl (k.2.1.1, 800, .inl (fun j => nI (pg j))) := by rw [hg3, va_up_ne _ _ (by omega)]; exact m_3
    have m_16 : g3 53 = .inl (k.2.1.1, 16, .inl lat) := by rw [hg3, va_up_ne _ _ (by omega)]; exact m_4
    have m_17 : g3 54 = .inl (k.2.1.1, 16, .inl (fun j => nI (gar j))) := by rw [hg3, va_up_ne _ _ (by omega)]; exact m_5
    have m_18 : g3 55 = .inl (k.2.1.1, 120, .inl (fun j => nI (T j))) := by rw [hg3, va_up_ne _ _ (by omega)]; exact m_6
    exact m_iret hx hb hr hlocks hI (⟨Or.inr (⟨c_14, ⟨m_13, m_14, m_15, m_16, m_17, m_18⟩⟩), fun i hi => by rw [hg3, va_up_ne _ _ (by omega), hg1, va_up_ne _ _ (by omega)]⟩) dX4_wind_22
set_option maxHeartbeats 8000000 in
set_option maxRecDepth 100000 in
theorem c_X4_would (k : mC) (l : Launch) (ad : Nat → Nat) (N : Nat) (g : Nat → va_E) (sz : Nat) (th : Nat) (uns : Bool) (play rd n : Nat) (lat : Nat → Int32) (gar T : Nat → Nat) (came : Nat) (mis lost bel : Int32) (fig : Bool) (u : Nat) (ln pg : Nat → Nat) (p0 : Int32) (hN : 56 ≤ N) (hW : CW play rd n lat gar T) (hwf : mWf (u, ln, pg)) (hcame : came < 2000000000) (hM0 : MR k ad g th uns play rd n lat gar T (came, mis, lost, bel, fig, u, ln, pg))  : mCi k l yX4_would wsX4_would { frames := 2, cells := 0, slots := 0, locals := 42 } ad N g sz [.ref (ad 50), .int p0] (fun r1 g1 => ((inN p0 32 = true ∧ r1 = nI (rdY play lat gar came (tn p0)) ∧ MR k ad g1 0 uns play rd n lat gar T (came, mis, lost, bel, fig, u, ln, pg)) ∨ (inN p0 32 = false ∧ MR k ad g1 1 uns play rd n lat gar T (came, mis, lost, bel, fig, u, ln, pg))) ∧ ∀ i, (i < 50 ∨ 56 ≤ i) → g1 i = g i) := by
  refine mOf (Qc := fun z9 => va_Qi (fun r1 g1 => ((inN p0 32 = true ∧ r1 = nI (rdY play lat gar came (tn p0)) ∧ MR k ad g1 0 uns play rd n lat gar T (came, mis, lost, bel, fig, u, ln, pg)) ∨ (inN p0 32 = false ∧ MR k ad g1 1 uns play rd n lat gar T (came, mis, lost, bel, fig, u, ln, pg))) ∧ ∀ i, (i < 50 ∨ 56 ≤ i) → g1 i = g i) (mB k ad N) (mA ad N z9)) (cc := cX4_would) (maxL := 2) (ret := (some .int)) (by decide) rfl (Nat.le_of_ble_eq_true rfl) ?_
  intro p e s m below meth c hx hb hr hts hown hlocks hml hin hE hI ls hl
  have hl : lv_has ls 2 [(0, .ref (ad 50)), (1, .int p0)] := hl
  have h50 : g 50 = .inr (4, [.int (nI th), .int (bI fig), .int (bI uns), .int (nI play), .int (nI u), .ref (ad 51), .ref (ad 52), .ref (ad 53), .ref (ad 54), .ref (ad 55), .int (nI n), .int (nI rd), .int (nI came), .int mis, .int lost, .int bel]) := hM0.1
  have h51 : g 51 = .inl (k.2.1.1, 20, .inl (fun j => nI (ln j))) := hM0.2.1
  have h52 : g 52 = .inl (k.2.1.1, 800, .inl (fun j => nI (pg j))) := hM0.2.2.1
  have h53 : g 53 = .inl (k.2.1.1, 16, .inl lat) := hM0.2.2.2.1
  have h54 : g 54 = .inl (k.2.1.1, 16, .inl (fun j => nI (gar j))) := hM0.2.2.2.2.1
  have h55 : g 55 = .inl (k.2.1.1, 120, .inl (fun j => nI (T j))) := hM0.2.2.2.2.2
  obtain ⟨hplay, hrd, hn, hgar, hT, hlat⟩ := id hW
  have hu0 : 0 < u := hwf.1
  have hu : u ≤ 20 := hwf.2.1
  have hln : ∀ j, j < 20 → ln j ≤ 40 := hwf.2.2
  refine lv_aload_n hx hb dX4_would_0 rfl (lv_at hl 0 rfl) ?_
  refine lv_iconst (v := nI 0) hx hb dX4_would_1 (by decide) ?_
  refine m_put (ci := 4) (C := RX4) (T := TX4) (N' := 16) (ty := .int) hx hb hts (by decide +kernel) tyX4 tyX4_ok nmX4 hown hE hI 50 (by omega) h50 rfl 0 (by decide) (hts (.fieldLink RX4 29 "TapePrinterModel" "thrown" "I") (by decide +kernel)) rfl (by decide +kernel) rfl rfl (Nat.le_of_ble_eq_true rfl) dX4_would_2 (fun H locs hI => ?_)
  obtain ⟨g1, hg1⟩ : ∃ zz, zz = va_up g 50 (.inr (4, [.int (nI 0), .int (bI fig), .int (bI uns), .int (nI play), .int (nI u), .ref (ad 51), .ref (ad 52), .ref (ad 53), .ref (ad 54), .ref (ad 55), .int (nI n), .int (nI rd), .int (nI came), .int mis, .int lost, .int bel])) := ⟨_, rfl⟩
  replace hI : mI k ad N g1 (mA ad N s.heap.size) s H locs := by rw [hg1]; exact hI
  have m_1 : g1 50 = .inr (4, [.int (nI 0), .int (bI fig), .int (bI uns), .int (nI play), .int (nI u), .ref (ad 51), .ref (ad 52), .ref (ad 53), .ref (ad 54), .ref (ad 55), .int (nI n), .int (nI rd), .int (nI came), .int mis, .int lost, .int bel]) := by rw [hg1, va_up_self]
  have m_2 : g1 51 = .inl (k.2.1.1, 20, .inl (fun j => nI (ln j))) := by rw [hg1, va_up_ne _ _ (by omega)]; exact h51
  have m_3 : g1 52 = .inl (k.2.1.1, 800, .inl (fun j => nI (pg j))) := by rw [hg1, va_up_ne _ _ (by omega)]; exact h52
  have m_4 : g1 53 = .inl (k.2.1.1, 16, .inl lat) := by rw [hg1, va_up_ne _ _ (by omega)]; exact h53
  have m_5 : g1 54 = .inl (k.2.1.1, 16, .inl (fun j => nI (gar j))) := by rw [hg1, va_up_ne _ _ (by omega)]; exact h54
  have m_6 : g1 55 = .inl (k.2.1.1, 120, .inl (fun j => nI (T j))) := by rw [hg1, va_up_ne _ _ (by omega)]; exact h55
  refine lv_iload_n hx hb dX4_would_5 rfl (lv_at hl 1 rfl) ?_
  refine m_callSi (As := [.int p0]) (rest := []) ⟨hx, hb, hml, hown, hts⟩ hE hI (c_X4_isCode k l ad N g1 _ p0 ) (va_cwS 1 hts gX4_would_X4_isCode rfl rfl rfl (by decide +kernel) ⟨Nat.le_of_ble_eq_true rfl, Nat.le_of_ble_eq_true rfl⟩) rfl hl.1 rfl (Nat.le_of_ble_eq_true rfl) dX4_would_6 ⟨Nat.le_of_ble_eq_true rfl, Nat.le_of_ble_eq_true rfl⟩ (m_deti (fun H locs hI => ?_))
  refine m_zeqB (tgt := 24) hx hb dX4_would_9 (by decide) (fun c_9 => ?_) (fun c_9 => ?_)
  · refine lv_aload_n hx hb dX4_would_24 rfl (lv_at hl 0 rfl) ?_
    refine lv_iconst (v := nI 1) hx hb dX4_would_25 (by decide) ?_
    refine m_callVi (As := [.int (nI 1)]) (rest := []) ⟨hx, hb, hml, hown, hts⟩ hE hI (c_X4_fail k l ad N g1 _ 0 uns play rd n lat gar T came mis lost bel fig u ln pg 1 (by omega) hW hwf (by omega) ⟨m_1, m_2, m_3, m_4, m_5, m_6⟩ ) (cwV 1 hts gX4_would_X4_fail rfl rfl rfl (by decide +kernel) ⟨Nat.le_of_ble_eq_true rfl, Nat.le_of_ble_eq_true rfl⟩) (i := 50) (by omega) m_1 rfl rfl hl.1 rfl (Nat.le_of_ble_eq_true rfl) dX4_would_26 ⟨Nat.le_of_ble_eq_true rfl, Nat.le_of_ble_eq_true rfl⟩ (m_deti (fun H locs hI => ?_))
    obtain ⟨g2, hg2⟩ : ∃ zz, zz = va_up g1 50 (.inr (4, [.int (nI 1), .int (bI fig), .int (bI uns), .int (nI play), .int (nI u), .ref (ad 51), .ref (ad 52), .ref (ad 53), .ref (ad 54), .ref (ad 55), .int (nI n), .int (nI rd), .int (nI came), .int mis, .int lost, .int bel])) := ⟨_, rfl⟩
    replace hI : mI k ad N g2 (mA ad N s.heap.size) s H locs := by rw [hg2]; exact hI
    have m_7 : g2 50 = .inr (4, [.int (nI 1), .int (bI fig), .int (bI uns), .int (nI play), .int (nI u), .ref (ad 51), .ref (ad 52), .ref (ad 53), .ref (ad 54), .ref (ad 55), .int (nI n), .int (nI rd), .int (nI came), .int mis, .int lost, .int bel]) := by rw [hg2, va_up_self]
    have m_8 : g2 51 = .inl (k.2.1.1, 20, .inl (fun j => nI (ln j))) := by rw [hg2, va_up_ne _ _ (by omega)]; exact m_2
    have m_9 : g2 52 = .inl (k.2.1.1, 800, .inl (fun j => nI (pg j))) := by rw [hg2, va_up_ne _ _ (by omega)]; exact m_3
    have m_10 : g2 53 = .inl (k.2.1.1, 16, .inl lat) := by rw [hg2, va_up_ne _ _ (by omega)]; exact m_4
    have m_11 : g2 54 = .inl (k.2.1.1, 16, .inl (fun j => nI (gar j))) := by rw [hg2, va_up_ne _ _ (by omega)]; exact m_5
    have m_12 : g2 55 = .inl (k.2.1.1, 120, .inl (fun j => nI (T j))) := by rw [hg2, va_up_ne _ _ (by omega)]; exact m_6
    exact m_iret hx hb hr hlocks hI (⟨Or.inr (⟨c_9, ⟨m_7, m_8, m_9, m_10, m_11, m_12⟩⟩), fun i hi => by rw [hg2, va_up_ne _ _ (by omega), hg1, va_up_ne _ _ (by omega)]⟩) dX4_would_29
  · obtain ⟨j, hj, rfl⟩ := inN_ex c_9 (by omega)
    have htnj := tn_nI (j := j) (by omega)
    have hl : lv_has ls 2 [(0, .ref (ad 50)), (1, .int (nI j))] := hl
    refine lv_aload_n hx hb dX4_would_12 rfl (lv_at hl 0 rfl) ?_
    refine lv_iload_n hx hb dX4_would_13 rfl (lv_at hl 1 rfl) ?_
    refine lv_aload_n hx hb dX4_would_14 rfl (lv_at hl 0 rfl) ?_
    refine m_get (ci := 4) (C := RX4) (T := TX4) (N' := 16) hx hb hts (by decide +kernel) hown hE hI 50 (by omega) m_1 rfl 12 (by decide) (hts (.fieldLink RX4 93 "TapePrinterModel" "came" "I") (by decide +kernel)) rfl dX4_would_15 ?_
    refine m_callVi (As := [.int (nI j), .int (nI came)]) (rest := []) ⟨hx, hb, hml, hown, hts⟩ hE hI (c_X4_read k l ad N g1 _ 0 uns play rd n lat gar T came mis lost bel fig u ln pg j came (by omega) hW hwf (by omega) ⟨m_1, m_2, m_3, m_4, m_5, m_6⟩ (by omega) (by omega)) (cwV 2 hts gX4_would_X4_read rfl rfl rfl (by decide +kernel) ⟨Nat.le_of_ble_eq_true rfl, Nat.le_of_ble_eq_true rfl⟩) (i := 50) (by omega) m_1 rfl rfl hl.1 rfl (Nat.le_of_ble_eq_true rfl) dX4_would_18 ⟨Nat.le_of_ble_eq_true rfl, Nat.le_of_ble_eq_true rfl⟩ (m_deti (fun H locs hI => ?_))
    refine lv_goto (tgt := 29) hx hb dX4_would_21 (by decide) ?_
    exact m_iret hx hb hr hlocks hI (⟨Or.inl (⟨c_9, by rw [htnj], ⟨m_1, m_2, m_3, m_4, m_5, m_6⟩⟩), fun i hi => by rw [hg1, va_up_ne _ _ (by omega)]⟩) dX4_would_29
set_option maxHeartbeats 8000000 in
set_option maxRecDepth 100000 in
theorem c_X4_page (k : mC) (l : Launch) (ad : Nat → Nat) (N : Nat) (g : Nat → va_E) (sz : Nat) (th : Nat) (uns : Bool) (play rd n : Nat) (lat : Nat → Int32) (gar T : Nat → Nat) (came : Nat) (mis lost bel : Int32) (fig : Bool) (u : Nat) (ln pg : Nat → Nat) (p0 p1 : Int32) (hN : 56 ≤ N) (hW : CW play rd n lat gar T) (hwf : mWf (u, ln, pg)) (hcame : came < 2000000000) (hM0 : MR k ad g th uns play rd n lat gar T (came, mis, lost, bel, fig, u, ln, pg))  : mCi k l yX4_page wsX4_page { frames := 2, cells := 0, slots := 0, locals := 43 } ad N g sz [.ref (ad 50), .int p0, .int p1] (fun r1 g1 => (((inN p0 u && inN p1 (ln (tn p0))) = true ∧ r1 = nI (pg (40 * tn p0 + tn p1)) ∧ MR k ad g1 0 uns play rd n lat gar T (came, mis, lost, bel, fig, u, ln, pg)) ∨ ((inN p0 u && inN p1 (ln (tn p0))) = false ∧ MR k ad g1 1 uns play rd n lat gar T (came, mis, lost, bel, fig, u, ln, pg))) ∧ ∀ i, (i < 50 ∨ 56 ≤ i) → g1 i = g i) := by
  refine mOf (Qc := fun z9 => va_Qi (fun r1 g1 => (((inN p0 u && inN p1 (ln (tn p0))) = true ∧ r1 = nI (pg (40 * tn p0 + tn p1)) ∧ MR k ad g1 0 uns play rd n lat gar T (came, mis, lost, bel, fig, u, ln, pg)) ∨ ((inN p0 u && inN p1 (ln (tn p0))) = false ∧ MR k ad g1 1 uns play rd n lat gar T (came, mis, lost, bel, fig, u, ln, pg))) ∧ ∀ i, (i < 50 ∨ 56 ≤ i) → g1 i = g i) (mB k ad N) (mA ad N z9)) (cc := cX4_page) (maxL := 3) (ret := (some .int)) (by decide) rfl (Nat.le_of_ble_eq_true rfl) ?_
  intro p e s m below meth c hx hb hr hts hown hlocks hml hin hE hI ls hl
  have hl : lv_has ls 3 [(0, .ref (ad 50)), (1, .int p0), (2, .int p1)] := hl
  have h50 : g 50 = .inr (4, [.int (nI th), .int (bI fig), .int (bI uns), .int (nI play), .int (nI u), .ref (ad 51), .ref (ad 52), .ref (ad 53), .ref (ad 54), .ref (ad 55), .int (nI n), .int (nI rd), .int (nI came), .int mis, .int lost, .int bel]) := hM0.1
  have h51 : g 51 = .inl (k.2.1.1, 20, .inl (fun j => nI (ln j))) := hM0.2.1
  have h52 : g 52 = .inl (k.2.1.1, 800, .inl (fun j => nI (pg j))) := hM0.2.2.1
  have h53 : g 53 = .inl (k.2.1.1, 16, .inl lat) := hM0.2.2.2.1
  have h54 : g 54 = .inl (k.2.1.1, 16, .inl (fun j => nI (gar j))) := hM0.2.2.2.2.1
  have h55 : g 55 = .inl (k.2.1.1, 120, .inl (fun j => nI (T j))) := hM0.2.2.2.2.2
  obtain ⟨hplay, hrd, hn, hgar, hT, hlat⟩ := id hW
  have hu0 : 0 < u := hwf.1
  have hu : u ≤ 20 := hwf.2.1
  have hln : ∀ j, j < 20 → ln j ≤ 40 := hwf.2.2
  refine lv_aload_n hx hb dX4_page_0 rfl (lv_at hl 0 rfl) ?_
  refine lv_iconst (v := nI 0) hx hb dX4_page_1 (by decide) ?_
  refine m_put (ci := 4) (C := RX4) (T := TX4) (N' := 16) (ty := .int) hx hb hts (by decide +kernel) tyX4 tyX4_ok nmX4 hown hE hI 50 (by omega) h50 rfl 0 (by decide) (hts (.fieldLink RX4 29 "TapePrinterModel" "thrown" "I") (by decide +kernel)) rfl (by decide +kernel) rfl rfl (Nat.le_of_ble_eq_true rfl) dX4_page_2 (fun H locs hI => ?_)
  obtain ⟨g1, hg1⟩ : ∃ zz, zz = va_up g 50 (.inr (4, [.int (nI 0), .int (bI fig), .int (bI uns), .int (nI play), .int (nI u), .ref (ad 51), .ref (ad 52), .ref (ad 53), .ref (ad 54), .ref (ad 55), .int (nI n), .int (nI rd), .int (nI came), .int mis, .int lost, .int bel])) := ⟨_, rfl⟩
  replace hI : mI k ad N g1 (mA ad N s.heap.size) s H locs := by rw [hg1]; exact hI
  have m_1 : g1 50 = .inr (4, [.int (nI 0), .int (bI fig), .int (bI uns), .int (nI play), .int (nI u), .ref (ad 51), .ref (ad 52), .ref (ad 53), .ref (ad 54), .ref (ad 55), .int (nI n), .int (nI rd), .int (nI came), .int mis, .int lost, .int bel]) := by rw [hg1, va_up_self]
  have m_2 : g1 51 = .inl (k.2.1.1, 20, .inl (fun j => nI (ln j))) := by rw [hg1, va_up_ne _ _ (by omega)]; exact h51
  have m_3 : g1 52 = .inl (k.2.1.1, 800, .inl (fun j => nI (pg j))) := by rw [hg1, va_up_ne _ _ (by omega)]; exact h52
  have m_4 : g1 53 = .inl (k.2.1.1, 16, .inl lat) := by rw [hg1, va_up_ne _ _ (by omega)]; exact h53
  have m_5 : g1 54 = .inl (k.2.1.1, 16, .inl (fun j => nI (gar j))) := by rw [hg1, va_up_ne _ _ (by omega)]; exact h54
  have m_6 : g1 55 = .inl (k.2.1.1, 120, .inl (fun j => nI (T j))) := by rw [hg1, va_up_ne _ _ (by omega)]; exact h55
  refine lv_aload_n hx hb dX4_page_5 rfl (lv_at hl 0 rfl) ?_
  refine lv_iload_n hx hb dX4_page_6 rfl (lv_at hl 1 rfl) ?_
  refine m_callVi (As := [.int p0]) (rest := []) ⟨hx, hb, hml, hown, hts⟩ hE hI (c_X4_isLine k l ad N g1 _ 0 uns play rd n lat gar T came mis lost bel fig u ln pg p0 (by omega) hW hwf (by omega) ⟨m_1, m_2, m_3, m_4, m_5, m_6⟩ ) (cwV 1 hts gX4_page_X4_isLine rfl rfl rfl (by decide +kernel) ⟨Nat.le_of_ble_eq_true rfl, Nat.le_of_ble_eq_true rfl⟩) (i := 50) (by omega) m_1 rfl rfl hl.1 rfl (Nat.le_of_ble_eq_true rfl) dX4_page_7 ⟨Nat.le_of_ble_eq_true rfl, Nat.le_of_ble_eq_true rfl⟩ (m_deti (fun H locs hI => ?_))
  refine m_zeqB (tgt := 43) hx hb dX4_page_10 (by decide) (fun c_10 => ?_) (fun c_10 => ?_)
  · refine lv_aload_n hx hb dX4_page_43 rfl (lv_at hl 0 rfl) ?_
    refine lv_iconst (v := nI 1) hx hb dX4_page_44 (by decide) ?_
    refine m_callVi (As := [.int (nI 1)]) (rest := []) ⟨hx, hb, hml, hown, hts⟩ hE hI (c_X4_fail k l ad N g1 _ 0 uns play rd n lat gar T came mis lost bel fig u ln pg 1 (by omega) hW hwf (by omega) ⟨m_1, m_2, m_3, m_4, m_5, m_6⟩ ) (cwV 1 hts gX4_page_X4_fail rfl rfl rfl (by decide +kernel) ⟨Nat.le_of_ble_eq_true rfl, Nat.le_of_ble_eq_true rfl⟩) (i := 50) (by omega) m_1 rfl rfl hl.1 rfl (Nat.le_of_ble_eq_true rfl) dX4_page_45 ⟨Nat.le_of_ble_eq_true rfl, Nat.le_of_ble_eq_true rfl⟩ (m_deti (fun H locs hI => ?_))
    obtain ⟨g2, hg2⟩ : ∃ zz, zz = va_up g1 50 (.inr (4, [.int (nI 1), .int (bI fig), .int (bI uns), .int (nI play), .int (nI u), .ref (ad 51), .ref (ad 52), .ref (ad 53), .ref (ad 54), .ref (ad 55), .int (nI n), .int (nI rd), .int (nI came), .int mis, .int lost, .int bel])) := ⟨_, rfl⟩
    replace hI : mI k ad N g2 (mA ad N s.heap.size) s H locs := by rw [hg2]; exact hI
    have m_7 : g2 50 = .inr (4, [.int (nI 1), .int (bI fig), .int (bI uns), .int (nI play), .int (nI u), .ref (ad 51), .ref (ad 52), .ref (ad 53), .ref (ad 54), .ref (ad 55), .int (nI n), .int (nI rd), .int (nI came), .int mis, .int lost, .int bel]) := by rw [hg2, va_up_self]
    have m_8 : g2 51 = .inl (k.2.1.1, 20, .inl (fun j => nI (ln j))) := by rw [hg2, va_up_ne _ _ (by omega)]; exact m_2
    have m_9 : g2 52 = .inl (k.2.1.1, 800, .inl (fun j => nI (pg j))) := by rw [hg2, va_up_ne _ _ (by omega)]; exact m_3
    have m_10 : g2 53 = .inl (k.2.1.1, 16, .inl lat) := by rw [hg2, va_up_ne _ _ (by omega)]; exact m_4
    have m_11 : g2 54 = .inl (k.2.1.1, 16, .inl (fun j => nI (gar j))) := by rw [hg2, va_up_ne _ _ (by omega)]; exact m_5
    have m_12 : g2 55 = .inl (k.2.1.1, 120, .inl (fun j => nI (T j))) := by rw [hg2, va_up_ne _ _ (by omega)]; exact m_6
    exact m_iret hx hb hr hlocks hI (⟨Or.inr (⟨by rw [c_10] <;> rfl, ⟨m_7, m_8, m_9, m_10, m_11, m_12⟩⟩), fun i hi => by rw [hg2, va_up_ne _ _ (by omega), hg1, va_up_ne _ _ (by omega)]⟩) dX4_page_48
  · obtain ⟨j, hj, rfl⟩ := inN_ex c_10 (by omega)
    have htnj := tn_nI (j := j) (by omega)
    have hl : lv_has ls 3 [(0, .ref (ad 50)), (1, .int (nI j)), (2, .int p1)] := hl
    have hlj := hln j (by omega)
    refine lv_iload_n hx hb dX4_page_13 rfl (lv_at hl 2 rfl) ?_
    refine lv_iconst (v := nI 0) hx hb dX4_page_14 (by decide) ?_
    refine lv_aload_n hx hb dX4_page_15 rfl (lv_at hl 0 rfl) ?_
    refine m_get (ci := 4) (C := RX4) (T := TX4) (N' := 16) hx hb hts (by decide +kernel) hown hE hI 50 (by omega) m_1 rfl 5 (by decide) (hts (.fieldLink RX4 13 "TapePrinterModel" "longs" "[I") (by decide +kernel)) rfl dX4_page_16 ?_
    refine lv_iload_n hx hb dX4_page_19 rfl (lv_at hl 1 rfl) ?_
    refine m_iald hx hb hE hI 51 (by omega) (j := j) m_2 (by omega) (by omega) dX4_page_20 ?_
    refine m_top (show (fun j => nI (ln j)) j = nI (ln j) from rfl) ?_
    refine lv_iconst (v := nI 1) hx hb dX4_page_21 (by decide) ?_
    refine lv_isub hx hb dX4_page_22 ?_
    refine m_callSi (As := [.int p1, .int (nI 0), .int (nI (ln j) - nI 1)]) (rest := []) ⟨hx, hb, hml, hown, hts⟩ hE hI (c_X4_isIn k l ad N g1 _ p1 (nI 0) (nI (ln j) - nI 1)) (va_cwS 3 hts gX4_page_X4_isIn rfl rfl rfl (by decide +kernel) ⟨Nat.le_of_ble_eq_true rfl, Nat.le_of_ble_eq_true rfl⟩) rfl hl.1 rfl (Nat.le_of_ble_eq_true rfl) dX4_page_23 ⟨Nat.le_of_ble_eq_true rfl, Nat.le_of_ble_eq_true rfl⟩ (m_deti (fun H locs hI => ?_))
    refine m_top (show bI (decide (nI 0 ≤ p1) && decide (p1 ≤ nI (ln j) - nI 1)) = bI (inN p1 (ln j)) from by rw [isIn_P (by omega)]) ?_
    refine m_zeqB (tgt := 43) hx hb dX4_page_26 (by decide) (fun c_26 => ?_) (fun c_26 => ?_)
    · refine lv_aload_n hx hb dX4_page_43 rfl (lv_at hl 0 rfl) ?_
      refine lv_iconst (v := nI 1) hx hb dX4_page_44 (by decide) ?_
      refine m_callVi (As := [.int (nI 1)]) (rest := []) ⟨hx, hb, hml, hown, hts⟩ hE hI (c_X4_fail k l ad N g1 _ 0 uns play rd n lat gar T came mis lost bel fig u ln pg 1 (by omega) hW hwf (by omega) ⟨m_1, m_2, m_3, m_4, m_5, m_6⟩ ) (cwV 1 hts gX4_page_X4_fail rfl rfl rfl (by decide +kernel) ⟨Nat.le_of_ble_eq_true rfl, Nat.le_of_ble_eq_true rfl⟩) (i := 50) (by omega) m_1 rfl rfl hl.1 rfl (Nat.le_of_ble_eq_true rfl) dX4_page_45 ⟨Nat.le_of_ble_eq_true rfl, Nat.le_of_ble_eq_true rfl⟩ (m_deti (fun H locs hI => ?_))
      obtain ⟨g3, hg3⟩ : ∃ zz, zz = va_up g1 50 (.inr (4, [.int (nI 1), .int (bI fig), .int (bI uns), .int (nI play), .int (nI u), .ref (ad 51), .ref (ad 52), .ref (ad 53), .ref (ad 54), .ref (ad 55), .int (nI n), .int (nI rd), .int (nI came), .int mis, .int lost, .int bel])) := ⟨_, rfl⟩
      replace hI : mI k ad N g3 (mA ad N s.heap.size) s H locs := by rw [hg3]; exact hI
      have m_13 : g3 50 = .inr (4, [.int (nI 1), .int (bI fig), .int (bI uns), .int (nI play), .int (nI u), .ref (ad 51), .ref (ad 52), .ref (ad 53), .ref (ad 54), .ref (ad 55), .int (nI n), .int (nI rd), .int (nI came), .int mis, .int lost, .int bel]) := by rw [hg3, va_up_self]
      have m_14 : g3 51 = .inl (k.2.1.1, 20, .inl (fun j => nI (ln j))) := by rw [hg3, va_up_ne _ _ (by omega)]; exact m_2
      have m_15 : g3 52 = .inl (k.2.1.1, 800, .inl (fun j => nI (pg j))) := by rw [hg3, va_up_ne _ _ (by omega)]; exact m_3
      have m_16 : g3 53 = .inl (k.2.1.1, 16, .inl lat) := by rw [hg3, va_up_ne _ _ (by omega)]; exact m_4
      have m_17 : g3 54 = .inl (k.2.1.1, 16, .inl (fun j => nI (gar j))) := by rw [hg3, va_up_ne _ _ (by omega)]; exact m_5
      have m_18 : g3 55 = .inl (k.2.1.1, 120, .inl (fun j => nI (T j))) := by rw [hg3, va_up_ne _ _ (by omega)]; exact m_6
      exact m_iret hx hb hr hlocks hI (⟨Or.inr (⟨by rw [c_10, htnj, c_26] <;> rfl, ⟨m_13, m_14, m_15, m_16, m_17, m_18⟩⟩), fun i hi => by rw [hg3, va_up_ne _ _ (by omega), hg1, va_up_ne _ _ (by omega)]⟩) dX4_page_48
    · obtain ⟨i, hi, rfl⟩ := inN_ex c_26 (by omega)
      have htni := tn_nI (j := i) (by omega)
      have hl : lv_has ls 3 [(0, .ref (ad 50)), (1, .int (nI j)), (2, .int (nI i))] := hl
      refine lv_aload_n hx hb dX4_page_29 rfl (lv_at hl 0 rfl) ?_
      refine m_get (ci := 4) (C := RX4) (T := TX4) (N' := 16) hx hb hts (by decide +kernel) hown hE hI 50 (by omega) m_1 rfl 6 (by decide) (hts (.fieldLink RX4 17 "TapePrinterModel" "page" "[I") (by decide +kernel)) rfl dX4_page_30 ?_
      refine lv_bipush (v := nI 40) hx hb dX4_page_33 (by decide) ?_
      refine lv_iload_n hx hb dX4_page_35 rfl (lv_at hl 1 rfl) ?_
      refine m_imulN hx hb dX4_page_36 ?_
      refine lv_iload_n hx hb dX4_page_37 rfl (lv_at hl 2 rfl) ?_
      refine m_iaddN hx hb dX4_page_38 ?_
      refine m_iald hx hb hE hI 52 (by omega) (j := (40 * j) + i) m_3 (by omega) (by omega) dX4_page_39 ?_
      refine m_top (show (fun j => nI (pg j)) ((40 * j) + i) = nI (pg ((40 * j) + i)) from rfl) ?_
      refine lv_goto (tgt := 48) hx hb dX4_page_40 (by decide) ?_
      exact m_iret hx hb hr hlocks hI (⟨Or.inl (⟨by rw [c_10, htnj, c_26] <;> rfl, by rw [htnj, htni], ⟨m_1, m_2, m_3, m_4, m_5, m_6⟩⟩), fun i hi => by rw [hg1, va_up_ne _ _ (by omega)]⟩) dX4_page_48
set_option maxHeartbeats 8000000 in
set_option maxRecDepth 100000 in
theorem c_X4_length (k : mC) (l : Launch) (ad : Nat → Nat) (N : Nat) (g : Nat → va_E) (sz : Nat) (th : Nat) (uns : Bool) (play rd n : Nat) (lat : Nat → Int32) (gar T : Nat → Nat) (came : Nat) (mis lost bel : Int32) (fig : Bool) (u : Nat) (ln pg : Nat → Nat) (p0 : Int32) (hN : 56 ≤ N) (hW : CW play rd n lat gar T) (hwf : mWf (u, ln, pg)) (hcame : came < 2000000000) (hM0 : MR k ad g th uns play rd n lat gar T (came, mis, lost, bel, fig, u, ln, pg))  : mCi k l yX4_length wsX4_length { frames := 2, cells := 0, slots := 0, locals := 43 } ad N g sz [.ref (ad 50), .int p0] (fun r1 g1 => ((inN p0 u = true ∧ r1 = nI (ln (tn p0)) ∧ MR k ad g1 0 uns play rd n lat gar T (came, mis, lost, bel, fig, u, ln, pg)) ∨ (inN p0 u = false ∧ MR k ad g1 1 uns play rd n lat gar T (came, mis, lost, bel, fig, u, ln, pg))) ∧ ∀ i, (i < 50 ∨ 56 ≤ i) → g1 i = g i) := by
  refine mOf (Qc := fun z9 => va_Qi (fun r1 g1 => ((inN p0 u = true ∧ r1 = nI (ln (tn p0)) ∧ MR k ad g1 0 uns play rd n lat gar T (came, mis, lost, bel, fig, u, ln, pg)) ∨ (inN p0 u = false ∧ MR k ad g1 1 uns play rd n lat gar T (came, mis, lost, bel, fig, u, ln, pg))) ∧ ∀ i, (i < 50 ∨ 56 ≤ i) → g1 i = g i) (mB k ad N) (mA ad N z9)) (cc := cX4_length) (maxL := 2) (ret := (some .int)) (by decide) rfl (Nat.le_of_ble_eq_true rfl) ?_
  intro p e s m below meth c hx hb hr hts hown hlocks hml hin hE hI ls hl
  have hl : lv_has ls 2 [(0, .ref (ad 50)), (1, .int p0)] := hl
  have h50 : g 50 = .inr (4, [.int (nI th), .int (bI fig), .int (bI uns), .int (nI play), .int (nI u), .ref (ad 51), .ref (ad 52), .ref (ad 53), .ref (ad 54), .ref (ad 55), .int (nI n), .int (nI rd), .int (nI came), .int mis, .int lost, .int bel]) := hM0.1
  have h51 : g 51 = .inl (k.2.1.1, 20, .inl (fun j => nI (ln j))) := hM0.2.1
  have h52 : g 52 = .inl (k.2.1.1, 800, .inl (fun j => nI (pg j))) := hM0.2.2.1
  have h53 : g 53 = .inl (k.2.1.1, 16, .inl lat) := hM0.2.2.2.1
  have h54 : g 54 = .inl (k.2.1.1, 16, .inl (fun j => nI (gar j))) := hM0.2.2.2.2.1
  have h55 : g 55 = .inl (k.2.1.1, 120, .inl (fun j => nI (T j))) := hM0.2.2.2.2.2
  obtain ⟨hplay, hrd, hn, hgar, hT, hlat⟩ := id hW
  have hu0 : 0 < u := hwf.1
  have hu : u ≤ 20 := hwf.2.1
  have hln : ∀ j, j < 20 → ln j ≤ 40 := hwf.2.2
  refine lv_aload_n hx hb dX4_length_0 rfl (lv_at hl 0 rfl) ?_
  refine lv_iconst (v := nI 0) hx hb dX4_length_1 (by decide) ?_
  refine m_put (ci := 4) (C := RX4) (T := TX4) (N' := 16) (ty := .int) hx hb hts (by decide +kernel) tyX4 tyX4_ok nmX4 hown hE hI 50 (by omega) h50 rfl 0 (by decide) (hts (.fieldLink RX4 29 "TapePrinterModel" "thrown" "I") (by decide +kernel)) rfl (by decide +kernel) rfl rfl (Nat.le_of_ble_eq_true rfl) dX4_length_2 (fun H locs hI => ?_)
  obtain ⟨g1, hg1⟩ : ∃ zz, zz = va_up g 50 (.inr (4, [.int (nI 0), .int (bI fig), .int (bI uns), .int (nI play), .int (nI u), .ref (ad 51), .ref (ad 52), .ref (ad 53), .ref (ad 54), .ref (ad 55), .int (nI n), .int (nI rd), .int (nI came), .int mis, .int lost, .int bel])) := ⟨_, rfl⟩
  replace hI : mI k ad N g1 (mA ad N s.heap.size) s H locs := by rw [hg1]; exact hI
  have m_1 : g1 50 = .inr (4, [.int (nI 0), .int (bI fig), .int (bI uns), .int (nI play), .int (nI u), .ref (ad 51), .ref (ad 52), .ref (ad 53), .ref (ad 54), .ref (ad 55), .int (nI n), .int (nI rd), .int (nI came), .int mis, .int lost, .int bel]) := by rw [hg1, va_up_self]
  have m_2 : g1 51 = .inl (k.2.1.1, 20, .inl (fun j => nI (ln j))) := by rw [hg1, va_up_ne _ _ (by omega)]; exact h51
  have m_3 : g1 52 = .inl (k.2.1.1, 800, .inl (fun j => nI (pg j))) := by rw [hg1, va_up_ne _ _ (by omega)]; exact h52
  have m_4 : g1 53 = .inl (k.2.1.1, 16, .inl lat) := by rw [hg1, va_up_ne _ _ (by omega)]; exact h53
  have m_5 : g1 54 = .inl (k.2.1.1, 16, .inl (fun j => nI (gar j))) := by rw [hg1, va_up_ne _ _ (by omega)]; exact h54
  have m_6 : g1 55 = .inl (k.2.1.1, 120, .inl (fun j => nI (T j))) := by rw [hg1, va_up_ne _ _ (by omega)]; exact h55
  refine lv_aload_n hx hb dX4_length_5 rfl (lv_at hl 0 rfl) ?_
  refine lv_iload_n hx hb dX4_length_6 rfl (lv_at hl 1 rfl) ?_
  refine m_callVi (As := [.int p0]) (rest := []) ⟨hx, hb, hml, hown, hts⟩ hE hI (c_X4_isLine k l ad N g1 _ 0 uns play rd n lat gar T came mis lost bel fig u ln pg p0 (by omega) hW hwf (by omega) ⟨m_1, m_2, m_3, m_4, m_5, m_6⟩ ) (cwV 1 hts gX4_length_X4_isLine rfl rfl rfl (by decide +kernel) ⟨Nat.le_of_ble_eq_true rfl, Nat.le_of_ble_eq_true rfl⟩) (i := 50) (by omega) m_1 rfl rfl hl.1 rfl (Nat.le_of_ble_eq_true rfl) dX4_length_7 ⟨Nat.le_of_ble_eq_true rfl, Nat.le_of_ble_eq_true rfl⟩ (m_deti (fun H locs hI => ?_))
  refine m_zeqB (tgt := 22) hx hb dX4_length_10 (by decide) (fun c_10 => ?_) (fun c_10 => ?_)
  · refine lv_aload_n hx hb dX4_length_22 rfl (lv_at hl 0 rfl) ?_
    refine lv_iconst (v := nI 1) hx hb dX4_length_23 (by decide) ?_
    refine m_callVi (As := [.int (nI 1)]) (rest := []) ⟨hx, hb, hml, hown, hts⟩ hE hI (c_X4_fail k l ad N g1 _ 0 uns play rd n lat gar T came mis lost bel fig u ln pg 1 (by omega) hW hwf (by omega) ⟨m_1, m_2, m_3, m_4, m_5, m_6⟩ ) (cwV 1 hts gX4_length_X4_fail rfl rfl rfl (by decide +kernel) ⟨Nat.le_of_ble_eq_true rfl, Nat.le_of_ble_eq_true rfl⟩) (i := 50) (by omega) m_1 rfl rfl hl.1 rfl (Nat.le_of_ble_eq_true rfl) dX4_length_24 ⟨Nat.le_of_ble_eq_true rfl, Nat.le_of_ble_eq_true rfl⟩ (m_deti (fun H locs hI => ?_))
    obtain ⟨g2, hg2⟩ : ∃ zz, zz = va_up g1 50 (.inr (4, [.int (nI 1), .int (bI fig), .int (bI uns), .int (nI play), .int (nI u), .ref (ad 51), .ref (ad 52), .ref (ad 53), .ref (ad 54), .ref (ad 55), .int (nI n), .int (nI rd), .int (nI came), .int mis, .int lost, .int bel])) := ⟨_, rfl⟩
    replace hI : mI k ad N g2 (mA ad N s.heap.size) s H locs := by rw [hg2]; exact hI
    have m_7 : g2 50 = .inr (4, [.int (nI 1), .int (bI fig), .int (bI uns), .int (nI play), .int (nI u), .ref (ad 51), .ref (ad 52), .ref (ad 53), .ref (ad 54), .ref (ad 55), .int (nI n), .int (nI rd), .int (nI came), .int mis, .int lost, .int bel]) := by rw [hg2, va_up_self]
    have m_8 : g2 51 = .inl (k.2.1.1, 20, .inl (fun j => nI (ln j))) := by rw [hg2, va_up_ne _ _ (by omega)]; exact m_2
    have m_9 : g2 52 = .inl (k.2.1.1, 800, .inl (fun j => nI (pg j))) := by rw [hg2, va_up_ne _ _ (by omega)]; exact m_3
    have m_10 : g2 53 = .inl (k.2.1.1, 16, .inl lat) := by rw [hg2, va_up_ne _ _ (by omega)]; exact m_4
    have m_11 : g2 54 = .inl (k.2.1.1, 16, .inl (fun j => nI (gar j))) := by rw [hg2, va_up_ne _ _ (by omega)]; exact m_5
    have m_12 : g2 55 = .inl (k.2.1.1, 120, .inl (fun j => nI (T j))) := by rw [hg2, va_up_ne _ _ (by omega)]; exact m_6
    exact m_iret hx hb hr hlocks hI (⟨Or.inr (⟨c_10, ⟨m_7, m_8, m_9, m_10, m_11, m_12⟩⟩), fun i hi => by rw [hg2, va_up_ne _ _ (by omega), hg1, va_up_ne _ _ (by omega)]⟩) dX4_length_27
  · obtain ⟨j, hj, rfl⟩ := inN_ex c_10 (by omega)
    have htnj := tn_nI (j := j) (by omega)
    have hl : lv_has ls 2 [(0, .ref (ad 50)), (1, .int (nI j))] := hl
    refine lv_aload_n hx hb dX4_length_13 rfl (lv_at hl 0 rfl) ?_
    refine m_get (ci := 4) (C := RX4) (T := TX4) (N' := 16) hx hb hts (by decide +kernel) hown hE hI 50 (by omega) m_1 rfl 5 (by decide) (hts (.fieldLink RX4 13 "TapePrinterModel" "longs" "[I") (by decide +kernel)) rfl dX4_length_14 ?_
    refine lv_iload_n hx hb dX4_length_17 rfl (lv_at hl 1 rfl) ?_
    refine m_iald hx hb hE hI 51 (by omega) (j := j) m_2 (by omega) (by omega) dX4_length_18 ?_
    refine m_top (show (fun j => nI (ln j)) j = nI (ln j) from rfl) ?_
    refine lv_goto (tgt := 27) hx hb dX4_length_19 (by decide) ?_
    exact m_iret hx hb hr hlocks hI (⟨Or.inl (⟨c_10, by rw [htnj], ⟨m_1, m_2, m_3, m_4, m_5, m_6⟩⟩), fun i hi => by rw [hg1, va_up_ne _ _ (by omega)]⟩) dX4_length_27
set_option maxHeartbeats 8000000 in
set_option maxRecDepth 100000 in
theorem c_X4_count (k : mC) (l : Launch) (ad : Nat → Nat) (N : Nat) (g : Nat → va_E) (sz : Nat) (th : Nat) (uns : Bool) (play rd n : Nat) (lat : Nat → Int32) (gar T : Nat → Nat) (came : Nat) (mis lost bel : Int32) (fig : Bool) (u : Nat) (ln pg : Nat → Nat) (p0 : Int32) (hN : 56 ≤ N) (hW : CW play rd n lat gar T) (hwf : mWf (u, ln, pg)) (hcame : came < 2000000000) (hM0 : MR k ad g th uns play rd n lat gar T (came, mis, lost, bel, fig, u, ln, pg))  : mCi k l yX4_count wsX4_count { frames := 1, cells := 0, slots := 0, locals := 23 } ad N g sz [.ref (ad 50), .int p0] (fun r1 g1 => ((inN p0 11 = true ∧ r1 = cntV u (sumL ln u) fig play n rd came mis lost uns bel (tn p0) ∧ MR k ad g1 0 uns play rd n lat gar T (came, mis, lost, bel, fig, u, ln, pg)) ∨ (inN p0 11 = false ∧ MR k ad g1 1 uns play rd n lat gar T (came, mis, lost, bel, fig, u, ln, pg))) ∧ ∀ i, (i < 50 ∨ 56 ≤ i) → g1 i = g i) := by
  refine mOf (Qc := fun z9 => va_Qi (fun r1 g1 => ((inN p0 11 = true ∧ r1 = cntV u (sumL ln u) fig play n rd came mis lost uns bel (tn p0) ∧ MR k ad g1 0 uns play rd n lat gar T (came, mis, lost, bel, fig, u, ln, pg)) ∨ (inN p0 11 = false ∧ MR k ad g1 1 uns play rd n lat gar T (came, mis, lost, bel, fig, u, ln, pg))) ∧ ∀ i, (i < 50 ∨ 56 ≤ i) → g1 i = g i) (mB k ad N) (mA ad N z9)) (cc := cX4_count) (maxL := 2) (ret := (some .int)) (by decide) rfl (Nat.le_of_ble_eq_true rfl) ?_
  intro p e s m below meth c hx hb hr hts hown hlocks hml hin hE hI ls hl
  have hl : lv_has ls 2 [(0, .ref (ad 50)), (1, .int p0)] := hl
  have h50 : g 50 = .inr (4, [.int (nI th), .int (bI fig), .int (bI uns), .int (nI play), .int (nI u), .ref (ad 51), .ref (ad 52), .ref (ad 53), .ref (ad 54), .ref (ad 55), .int (nI n), .int (nI rd), .int (nI came), .int mis, .int lost, .int bel]) := hM0.1
  have h51 : g 51 = .inl (k.2.1.1, 20, .inl (fun j => nI (ln j))) := hM0.2.1
  have h52 : g 52 = .inl (k.2.1.1, 800, .inl (fun j => nI (pg j))) := hM0.2.2.1
  have h53 : g 53 = .inl (k.2.1.1, 16, .inl lat) := hM0.2.2.2.1
  have h54 : g 54 = .inl (k.2.1.1, 16, .inl (fun j => nI (gar j))) := hM0.2.2.2.2.1
  have h55 : g 55 = .inl (k.2.1.1, 120, .inl (fun j => nI (T j))) := hM0.2.2.2.2.2
  obtain ⟨hplay, hrd, hn, hgar, hT, hlat⟩ := id hW
  have hu0 : 0 < u := hwf.1
  have hu : u ≤ 20 := hwf.2.1
  have hln : ∀ j, j < 20 → ln j ≤ 40 := hwf.2.2
  refine lv_aload_n hx hb dX4_count_0 rfl (lv_at hl 0 rfl) ?_
  refine lv_iconst (v := nI 0) hx hb dX4_count_1 (by decide) ?_
  refine m_put (ci := 4) (C := RX4) (T := TX4) (N' := 16) (ty := .int) hx hb hts (by decide +kernel) tyX4 tyX4_ok nmX4 hown hE hI 50 (by omega) h50 rfl 0 (by decide) (hts (.fieldLink RX4 29 "TapePrinterModel" "thrown" "I") (by decide +kernel)) rfl (by decide +kernel) rfl rfl (Nat.le_of_ble_eq_true rfl) dX4_count_2 (fun H locs hI => ?_)
  obtain ⟨g1, hg1⟩ : ∃ zz, zz = va_up g 50 (.inr (4, [.int (nI 0), .int (bI fig), .int (bI uns), .int (nI play), .int (nI u), .ref (ad 51), .ref (ad 52), .ref (ad 53), .ref (ad 54), .ref (ad 55), .int (nI n), .int (nI rd), .int (nI came), .int mis, .int lost, .int bel])) := ⟨_, rfl⟩
  replace hI : mI k ad N g1 (mA ad N s.heap.size) s H locs := by rw [hg1]; exact hI
  have m_1 : g1 50 = .inr (4, [.int (nI 0), .int (bI fig), .int (bI uns), .int (nI play), .int (nI u), .ref (ad 51), .ref (ad 52), .ref (ad 53), .ref (ad 54), .ref (ad 55), .int (nI n), .int (nI rd), .int (nI came), .int mis, .int lost, .int bel]) := by rw [hg1, va_up_self]
  have m_2 : g1 51 = .inl (k.2.1.1, 20, .inl (fun j => nI (ln j))) := by rw [hg1, va_up_ne _ _ (by omega)]; exact h51
  have m_3 : g1 52 = .inl (k.2.1.1, 800, .inl (fun j => nI (pg j))) := by rw [hg1, va_up_ne _ _ (by omega)]; exact h52
  have m_4 : g1 53 = .inl (k.2.1.1, 16, .inl lat) := by rw [hg1, va_up_ne _ _ (by omega)]; exact h53
  have m_5 : g1 54 = .inl (k.2.1.1, 16, .inl (fun j => nI (gar j))) := by rw [hg1, va_up_ne _ _ (by omega)]; exact h54
  have m_6 : g1 55 = .inl (k.2.1.1, 120, .inl (fun j => nI (T j))) := by rw [hg1, va_up_ne _ _ (by omega)]; exact h55
  refine lv_iload_n hx hb dX4_count_5 rfl (lv_at hl 1 rfl) ?_
  refine lv_iconst (v := nI 0) hx hb dX4_count_6 (by decide) ?_
  refine lv_bipush (v := nI 10) hx hb dX4_count_7 (by decide) ?_
  refine m_callSi (As := [.int p0, .int (nI 0), .int (nI 10)]) (rest := []) ⟨hx, hb, hml, hown, hts⟩ hE hI (c_X4_isIn k l ad N g1 _ p0 (nI 0) (nI 10)) (va_cwS 3 hts gX4_count_X4_isIn rfl rfl rfl (by decide +kernel) ⟨Nat.le_of_ble_eq_true rfl, Nat.le_of_ble_eq_true rfl⟩) rfl hl.1 rfl (Nat.le_of_ble_eq_true rfl) dX4_count_9 ⟨Nat.le_of_ble_eq_true rfl, Nat.le_of_ble_eq_true rfl⟩ (m_deti (fun H locs hI => ?_))
  refine m_top (show bI (decide (nI 0 ≤ p0) && decide (p0 ≤ nI 10)) = bI (inN p0 11) from by rw [isIn_N (h := 10) (by omega)]) ?_
  refine m_zeqB (tgt := 23) hx hb dX4_count_12 (by decide) (fun c_12 => ?_) (fun c_12 => ?_)
  · refine lv_aload_n hx hb dX4_count_23 rfl (lv_at hl 0 rfl) ?_
    refine lv_iconst (v := nI 1) hx hb dX4_count_24 (by decide) ?_
    refine m_callVi (As := [.int (nI 1)]) (rest := []) ⟨hx, hb, hml, hown, hts⟩ hE hI (c_X4_fail k l ad N g1 _ 0 uns play rd n lat gar T came mis lost bel fig u ln pg 1 (by omega) hW hwf (by omega) ⟨m_1, m_2, m_3, m_4, m_5, m_6⟩ ) (cwV 1 hts gX4_count_X4_fail rfl rfl rfl (by decide +kernel) ⟨Nat.le_of_ble_eq_true rfl, Nat.le_of_ble_eq_true rfl⟩) (i := 50) (by omega) m_1 rfl rfl hl.1 rfl (Nat.le_of_ble_eq_true rfl) dX4_count_25 ⟨Nat.le_of_ble_eq_true rfl, Nat.le_of_ble_eq_true rfl⟩ (m_deti (fun H locs hI => ?_))
    obtain ⟨g2, hg2⟩ : ∃ zz, zz = va_up g1 50 (.inr (4, [.int (nI 1), .int (bI fig), .int (bI uns), .int (nI play), .int (nI u), .ref (ad 51), .ref (ad 52), .ref (ad 53), .ref (ad 54), .ref (ad 55), .int (nI n), .int (nI rd), .int (nI came), .int mis, .int lost, .int bel])) := ⟨_, rfl⟩
    replace hI : mI k ad N g2 (mA ad N s.heap.size) s H locs := by rw [hg2]; exact hI
    have m_7 : g2 50 = .inr (4, [.int (nI 1), .int (bI fig), .int (bI uns), .int (nI play), .int (nI u), .ref (ad 51), .ref (ad 52), .ref (ad 53), .ref (ad 54), .ref (ad 55), .int (nI n), .int (nI rd), .int (nI came), .int mis, .int lost, .int bel]) := by rw [hg2, va_up_self]
    have m_8 : g2 51 = .inl (k.2.1.1, 20, .inl (fun j => nI (ln j))) := by rw [hg2, va_up_ne _ _ (by omega)]; exact m_2
    have m_9 : g2 52 = .inl (k.2.1.1, 800, .inl (fun j => nI (pg j))) := by rw [hg2, va_up_ne _ _ (by omega)]; exact m_3
    have m_10 : g2 53 = .inl (k.2.1.1, 16, .inl lat) := by rw [hg2, va_up_ne _ _ (by omega)]; exact m_4
    have m_11 : g2 54 = .inl (k.2.1.1, 16, .inl (fun j => nI (gar j))) := by rw [hg2, va_up_ne _ _ (by omega)]; exact m_5
    have m_12 : g2 55 = .inl (k.2.1.1, 120, .inl (fun j => nI (T j))) := by rw [hg2, va_up_ne _ _ (by omega)]; exact m_6
    exact m_iret hx hb hr hlocks hI (⟨Or.inr (⟨c_12, ⟨m_7, m_8, m_9, m_10, m_11, m_12⟩⟩), fun i hi => by rw [hg2, va_up_ne _ _ (by omega), hg1, va_up_ne _ _ (by omega)]⟩) dX4_count_28
  · obtain ⟨j, hj, rfl⟩ := inN_ex c_12 (by omega)
    have htnj := tn_nI (j := j) (by omega)
    have hl : lv_has ls 2 [(0, .ref (ad 50)), (1, .int (nI j))] := hl
    refine lv_aload_n hx hb dX4_count_15 rfl (lv_at hl 0 rfl) ?_
    refine lv_iload_n hx hb dX4_count_16 rfl (lv_at hl 1 rfl) ?_
    refine m_callVi (As := [.int (nI j)]) (rest := []) ⟨hx, hb, hml, hown, hts⟩ hE hI (c_X4_counted k l ad N g1 _ 0 uns play rd n lat gar T came mis lost bel fig u ln pg j (by omega) hW hwf (by omega) ⟨m_1, m_2, m_3, m_4, m_5, m_6⟩ (by omega)) (cwV 1 hts gX4_count_X4_counted rfl rfl rfl (by decide +kernel) ⟨Nat.le_of_ble_eq_true rfl, Nat.le_of_ble_eq_true rfl⟩) (i := 50) (by omega) m_1 rfl rfl hl.1 rfl (Nat.le_of_ble_eq_true rfl) dX4_count_17 ⟨Nat.le_of_ble_eq_true rfl, Nat.le_of_ble_eq_true rfl⟩ (m_deti (fun H locs hI => ?_))
    refine lv_goto (tgt := 28) hx hb dX4_count_20 (by decide) ?_
    exact m_iret hx hb hr hlocks hI (⟨Or.inl (⟨c_12, by rw [htnj], ⟨m_1, m_2, m_3, m_4, m_5, m_6⟩⟩), fun i hi => by rw [hg1, va_up_ne _ _ (by omega)]⟩) dX4_count_28
set_option maxHeartbeats 8000000 in
set_option maxRecDepth 100000 in
theorem c_X4_wrong (k : mC) (l : Launch) (ad : Nat → Nat) (N : Nat) (g : Nat → va_E) (sz : Nat) (th : Nat) (uns : Bool) (play rd n : Nat) (lat : Nat → Int32) (gar T : Nat → Nat) (came : Nat) (mis lost bel : Int32) (fig : Bool) (u : Nat) (ln pg : Nat → Nat)  (hN : 56 ≤ N) (hW : CW play rd n lat gar T) (hwf : mWf (u, ln, pg)) (hcame : came < 2000000000) (hM0 : MR k ad g th uns play rd n lat gar T (came, mis, lost, bel, fig, u, ln, pg))  : mCi k l yX4_wrong wsX4_wrong { frames := 1, cells := 0, slots := 0, locals := 24 } ad N g sz [.ref (ad 50)] (fun r1 g1 => (r1 = nI (wrN play lat gar T rd came (n - rd)) ∧ MR k ad g1 0 uns play rd n lat gar T (came, mis, lost, bel, fig, u, ln, pg)) ∧ ∀ i, (i < 50 ∨ 56 ≤ i) → g1 i = g i) := by
  refine mOf (Qc := fun z9 => va_Qi (fun r1 g1 => (r1 = nI (wrN play lat gar T rd came (n - rd)) ∧ MR k ad g1 0 uns play rd n lat gar T (came, mis, lost, bel, fig, u, ln, pg)) ∧ ∀ i, (i < 50 ∨ 56 ≤ i) → g1 i = g i) (mB k ad N) (mA ad N z9)) (cc := cX4_wrong) (maxL := 3) (ret := (some .int)) (by decide) rfl (Nat.le_of_ble_eq_true rfl) ?_
  intro p e s m below meth c hx hb hr hts hown hlocks hml hin hE hI ls hl
  have hl : lv_has ls 3 [(0, .ref (ad 50))] := hl
  have h50 : g 50 = .inr (4, [.int (nI th), .int (bI fig), .int (bI uns), .int (nI play), .int (nI u), .ref (ad 51), .ref (ad 52), .ref (ad 53), .ref (ad 54), .ref (ad 55), .int (nI n), .int (nI rd), .int (nI came), .int mis, .int lost, .int bel]) := hM0.1
  have h51 : g 51 = .inl (k.2.1.1, 20, .inl (fun j => nI (ln j))) := hM0.2.1
  have h52 : g 52 = .inl (k.2.1.1, 800, .inl (fun j => nI (pg j))) := hM0.2.2.1
  have h53 : g 53 = .inl (k.2.1.1, 16, .inl lat) := hM0.2.2.2.1
  have h54 : g 54 = .inl (k.2.1.1, 16, .inl (fun j => nI (gar j))) := hM0.2.2.2.2.1
  have h55 : g 55 = .inl (k.2.1.1, 120, .inl (fun j => nI (T j))) := hM0.2.2.2.2.2
  obtain ⟨hplay, hrd, hn, hgar, hT, hlat⟩ := id hW
  have hu0 : 0 < u := hwf.1
  have hu : u ≤ 20 := hwf.2.1
  have hln : ∀ j, j < 20 → ln j ≤ 40 := hwf.2.2
  refine lv_aload_n hx hb dX4_wrong_0 rfl (lv_at hl 0 rfl) ?_
  refine lv_iconst (v := nI 0) hx hb dX4_wrong_1 (by decide) ?_
  refine m_put (ci := 4) (C := RX4) (T := TX4) (N' := 16) (ty := .int) hx hb hts (by decide +kernel) tyX4 tyX4_ok nmX4 hown hE hI 50 (by omega) h50 rfl 0 (by decide) (hts (.fieldLink RX4 29 "TapePrinterModel" "thrown" "I") (by decide +kernel)) rfl (by decide +kernel) rfl rfl (Nat.le_of_ble_eq_true rfl) dX4_wrong_2 (fun H locs hI => ?_)
  obtain ⟨g1, hg1⟩ : ∃ zz, zz = va_up g 50 (.inr (4, [.int (nI 0), .int (bI fig), .int (bI uns), .int (nI play), .int (nI u), .ref (ad 51), .ref (ad 52), .ref (ad 53), .ref (ad 54), .ref (ad 55), .int (nI n), .int (nI rd), .int (nI came), .int mis, .int lost, .int bel])) := ⟨_, rfl⟩
  replace hI : mI k ad N g1 (mA ad N s.heap.size) s H locs := by rw [hg1]; exact hI
  have m_1 : g1 50 = .inr (4, [.int (nI 0), .int (bI fig), .int (bI uns), .int (nI play), .int (nI u), .ref (ad 51), .ref (ad 52), .ref (ad 53), .ref (ad 54), .ref (ad 55), .int (nI n), .int (nI rd), .int (nI came), .int mis, .int lost, .int bel]) := by rw [hg1, va_up_self]
  have m_2 : g1 51 = .inl (k.2.1.1, 20, .inl (fun j => nI (ln j))) := by rw [hg1, va_up_ne _ _ (by omega)]; exact h51
  have m_3 : g1 52 = .inl (k.2.1.1, 800, .inl (fun j => nI (pg j))) := by rw [hg1, va_up_ne _ _ (by omega)]; exact h52
  have m_4 : g1 53 = .inl (k.2.1.1, 16, .inl lat) := by rw [hg1, va_up_ne _ _ (by omega)]; exact h53
  have m_5 : g1 54 = .inl (k.2.1.1, 16, .inl (fun j => nI (gar j))) := by rw [hg1, va_up_ne _ _ (by omega)]; exact h54
  have m_6 : g1 55 = .inl (k.2.1.1, 120, .inl (fun j => nI (T j))) := by rw [hg1, va_up_ne _ _ (by omega)]; exact h55
  refine lv_iconst (v := nI 0) hx hb dX4_wrong_5 (by decide) ?_
  refine lv_istore_n (lv' := [(1, .int (nI 0)), (0, .ref (ad 50))]) hx hb dX4_wrong_6 rfl hl (by decide) rfl (fun ls hl => ?_)
  refine lv_aload_n hx hb dX4_wrong_7 rfl (lv_at hl 1 rfl) ?_
  refine m_get (ci := 4) (C := RX4) (T := TX4) (N' := 16) hx hb hts (by decide +kernel) hown hE hI 50 (by omega) m_1 rfl 11 (by decide) (hts (.fieldLink RX4 121 "TapePrinterModel" "reader" "I") (by decide +kernel)) rfl dX4_wrong_8 ?_
  refine lv_istore_n (lv' := [(2, .int (nI rd)), (1, .int (nI 0)), (0, .ref (ad 50))]) hx hb dX4_wrong_11 rfl hl (by decide) rfl (fun ls hl => ?_)
  refine m_loop (σ := Nat) (fun i => rd + i ≤ n) (fun i => n - i) (fun i => g1) (fun i => [(0, .ref (ad 50)), (1, .int (nI (wrN play lat gar T rd came i))), (2, .int (nI (rd + i)))]) (nL := 3) 0 (show rd + 0 ≤ n by omega) hI (lv_sub hl [2, 1, 0] rfl) ?_
  rintro i hin1 ih12 H locs ls hI hl
  have hI : mI k ad N g1 (mA ad N s.heap.size) s H locs := hI
  have hl : lv_has ls 3 [(0, .ref (ad 50)), (1, .int (nI (wrN play lat gar T rd came i))), (2, .int (nI (rd + i)))] := hl
  have hwn := wrN_le play lat gar T rd came i
  refine lv_iload_n hx hb dX4_wrong_12 rfl (lv_at hl 2 rfl) ?_
  refine lv_aload_n hx hb dX4_wrong_13 rfl (lv_at hl 0 rfl) ?_
  refine m_get (ci := 4) (C := RX4) (T := TX4) (N' := 16) hx hb hts (by decide +kernel) hown hE hI 50 (by omega) m_1 rfl 10 (by decide) (hts (.fieldLink RX4 109 "TapePrinterModel" "codes" "I") (by decide +kernel)) rfl dX4_wrong_14 ?_
  refine m_cgeN (tgt := 64) hx hb (by omega) (by omega) dX4_wrong_17 (by decide) (fun c_17 => ?_) (fun c_17 => ?_)
  · refine lv_iload_n hx hb dX4_wrong_64 rfl (lv_at hl 1 rfl) ?_
    exact m_iret hx hb hr hlocks hI (⟨⟨by rw [show n - rd = i by omega], ⟨m_1, m_2, m_3, m_4, m_5, m_6⟩⟩, fun i hi => by rw [hg1, va_up_ne _ _ (by omega)]⟩) dX4_wrong_65
  · refine lv_iload_n hx hb dX4_wrong_20 rfl (lv_at hl 1 rfl) ?_
    refine lv_aload_n hx hb dX4_wrong_21 rfl (lv_at hl 0 rfl) ?_
    refine lv_aload_n hx hb dX4_wrong_22 rfl (lv_at hl 0 rfl) ?_
    refine m_get (ci := 4) (C := RX4) (T := TX4) (N' := 16) hx hb hts (by decide +kernel) hown hE hI 50 (by omega) m_1 rfl 9 (by decide) (hts (.fieldLink RX4 26 "TapePrinterModel" "tape" "[I") (by decide +kernel)) rfl dX4_wrong_23 ?_
    refine lv_iload_n hx hb dX4_wrong_26 rfl (lv_at hl 2 rfl) ?_
    refine m_iald hx hb hE hI 55 (by omega) (j := rd + i) m_6 (by omega) (by omega) dX4_wrong_27 ?_
    refine m_top (show (fun j => nI (T j)) (rd + i) = nI (T (rd + i)) from rfl) ?_
    have ht_7 := hT (rd + i)
    refine lv_aload_n hx hb dX4_wrong_28 rfl (lv_at hl 0 rfl) ?_
    refine m_get (ci := 4) (C := RX4) (T := TX4) (N' := 16) hx hb hts (by decide +kernel) hown hE hI 50 (by omega) m_1 rfl 12 (by decide) (hts (.fieldLink RX4 93 "TapePrinterModel" "came" "I") (by decide +kernel)) rfl dX4_wrong_29 ?_
    refine lv_iload_n hx hb dX4_wrong_32 rfl (lv_at hl 2 rfl) ?_
    refine m_iaddN hx hb dX4_wrong_33 ?_
    refine lv_aload_n hx hb dX4_wrong_34 rfl (lv_at hl 0 rfl) ?_
    refine m_get (ci := 4) (C := RX4) (T := TX4) (N' := 16) hx hb hts (by decide +kernel) hown hE hI 50 (by omega) m_1 rfl 11 (by decide) (hts (.fieldLink RX4 121 "TapePrinterModel" "reader" "I") (by decide +kernel)) rfl dX4_wrong_35 ?_
    refine m_isubN hx hb (by omega) dX4_wrong_38 ?_
    refine m_top (show nI ((came + (rd + i)) - rd) = nI (came + i) from by rw [show came + (rd + i) - rd = came + i by omega]) ?_
    refine m_callVi (As := [.int (nI (T (rd + i))), .int (nI (came + i))]) (rest := [.int (nI (wrN play lat gar T rd came i))]) ⟨hx, hb, hml, hown, hts⟩ hE hI (c_X4_read k l ad N g1 _ 0 uns play rd n lat gar T came mis lost bel fig u ln pg (T (rd + i)) (came + i) (by omega) hW hwf (by omega) ⟨m_1, m_2, m_3, m_4, m_5, m_6⟩ (hT _) (by omega)) (cwV 2 hts gX4_wrong_X4_read rfl rfl rfl (by decide +kernel) ⟨Nat.le_of_ble_eq_true rfl, Nat.le_of_ble_eq_true rfl⟩) (i := 50) (by omega) m_1 rfl rfl hl.1 rfl (Nat.le_of_ble_eq_true rfl) dX4_wrong_39 ⟨Nat.le_of_ble_eq_true rfl, Nat.le_of_ble_eq_true rfl⟩ (m_deti (fun H locs hI => ?_))
    have hrl : rdY play lat gar (came + i) (T (rd + i)) < 32 := rdF_lt (hT (rd + i)) (hgar ((came + i) % 16) (Nat.mod_lt _ (by omega)))
    refine lv_aload_n hx hb dX4_wrong_42 rfl (lv_at hl 0 rfl) ?_
    refine m_get (ci := 4) (C := RX4) (T := TX4) (N' := 16) hx hb hts (by decide +kernel) hown hE hI 50 (by omega) m_1 rfl 9 (by decide) (hts (.fieldLink RX4 26 "TapePrinterModel" "tape" "[I") (by decide +kernel)) rfl dX4_wrong_43 ?_
    refine lv_iload_n hx hb dX4_wrong_46 rfl (lv_at hl 2 rfl) ?_
    refine m_iald hx hb hE hI 55 (by omega) (j := rd + i) m_6 (by omega) (by omega) dX4_wrong_47 ?_
    refine m_top (show (fun j => nI (T j)) (rd + i) = nI (T (rd + i)) from rfl) ?_
    have ht_8 := hT (rd + i)
    refine m_cneN (tgt := 55) hx hb (by omega) (by omega) dX4_wrong_48 (by decide) (fun c_48 => ?_) (fun c_48 => ?_)
    · refine lv_iconst (v := nI 1) hx hb dX4_wrong_55 (by decide) ?_
      refine m_iaddN hx hb dX4_wrong_56 ?_
      refine lv_istore_n (lv' := [(1, .int (nI ((wrN play lat gar T rd came i) + 1))), (0, .ref (ad 50)), (2, .int (nI (rd + i)))]) hx hb dX4_wrong_57 rfl hl (by decide) rfl (fun ls hl => ?_)
      have hdn : wrN play lat gar T rd came (i + 1) = wrN play lat gar T rd came i + 1 := by show (if rdY play lat gar (came + i) (T (rd + i)) = T (rd + i) then wrN play lat gar T rd came i else wrN play lat gar T rd came i + 1) = _; rw [if_neg c_48]
      have hl : lv_has ls 3 [(1, .int (nI (wrN play lat gar T rd came (i + 1)))), (0, .ref (ad 50)), (2, .int (nI (rd + i)))] := by rw [hdn]; exact hl
      refine lv_iinc (v := nI ((rd + i) + 1)) (lv' := [(2, .int (nI ((rd + i) + 1))), (1, .int (nI (wrN play lat gar T rd came (i + 1)))), (0, .ref (ad 50))]) hx hb dX4_wrong_58 hl (k := 2) rfl (nI_add (rd + i) 1) (by decide) rfl (fun ls hl => ?_)
      refine lv_goto (tgt := 12) hx hb dX4_wrong_61 (by decide) ?_
      exact ih12 (i + 1) (show rd + (i + 1) ≤ n by omega) (show n - (i + 1) < n - i by omega) _ _ _ hI (lv_sub hl [2, 1, 0] rfl)
    · refine lv_iconst (v := nI 0) hx hb dX4_wrong_51 (by decide) ?_
      refine lv_goto (tgt := 56) hx hb dX4_wrong_52 (by decide) ?_
      refine m_iaddN hx hb dX4_wrong_56 ?_
      refine lv_istore_n (lv' := [(1, .int (nI ((wrN play lat gar T rd came i) + 0))), (0, .ref (ad 50)), (2, .int (nI (rd + i)))]) hx hb dX4_wrong_57 rfl hl (by decide) rfl (fun ls hl => ?_)
      have hdn : wrN play lat gar T rd came (i + 1) = wrN play lat gar T rd came i := by show (if rdY play lat gar (came + i) (T (rd + i)) = T (rd + i) then wrN play lat gar T rd came i else wrN play lat gar T rd came i + 1) = _; rw [if_pos c_48]
      have hl : lv_has ls 3 [(1, .int (nI (wrN play lat gar T rd came (i + 1)))), (0, .ref (ad 50)), (2, .int (nI (rd + i)))] := by rw [hdn]; exact hl
      refine lv_iinc (v := nI ((rd + i) + 1)) (lv' := [(2, .int (nI ((rd + i) + 1))), (1, .int (nI (wrN play lat gar T rd came (i + 1)))), (0, .ref (ad 50))]) hx hb dX4_wrong_58 hl (k := 2) rfl (nI_add (rd + i) 1) (by decide) rfl (fun ls hl => ?_)
      refine lv_goto (tgt := 12) hx hb dX4_wrong_61 (by decide) ?_
      exact ih12 (i + 1) (show rd + (i + 1) ≤ n by omega) (show n - (i + 1) < n - i by omega) _ _ _ hI (lv_sub hl [2, 1, 0] rfl)
set_option maxHeartbeats 8000000 in
set_option maxRecDepth 100000 in
theorem c_X4_idle (k : mC) (l : Launch) (ad : Nat → Nat) (N : Nat) (g : Nat → va_E) (sz : Nat) (th : Nat) (uns : Bool) (play rd n : Nat) (lat : Nat → Int32) (gar T : Nat → Nat) (came : Nat) (mis lost bel : Int32) (fig : Bool) (u : Nat) (ln pg : Nat → Nat)  (hN : 56 ≤ N) (hW : CW play rd n lat gar T) (hwf : mWf (u, ln, pg)) (hcame : came < 2000000000) (hM0 : MR k ad g th uns play rd n lat gar T (came, mis, lost, bel, fig, u, ln, pg))  : mCi k l yX4_idle wsX4_idle { frames := 3, cells := 0, slots := 0, locals := 67 } ad N g sz [.ref (ad 50)] (fun r1 g1 => (r1 = nI (idl uns T n n) ∧ MR k ad g1 0 uns play rd n lat gar T (came, mis, lost, bel, fig, u, ln, pg)) ∧ ∀ i, (i < 50 ∨ 56 ≤ i) → g1 i = g i) := by
  refine mOf (Qc := fun z9 => va_Qi (fun r1 g1 => (r1 = nI (idl uns T n n) ∧ MR k ad g1 0 uns play rd n lat gar T (came, mis, lost, bel, fig, u, ln, pg)) ∧ ∀ i, (i < 50 ∨ 56 ≤ i) → g1 i = g i) (mB k ad N) (mA ad N z9)) (cc := cX4_idle) (maxL := 3) (ret := (some .int)) (by decide) rfl (Nat.le_of_ble_eq_true rfl) ?_
  intro p e s m below meth c hx hb hr hts hown hlocks hml hin hE hI ls hl
  have hl : lv_has ls 3 [(0, .ref (ad 50))] := hl
  have h50 : g 50 = .inr (4, [.int (nI th), .int (bI fig), .int (bI uns), .int (nI play), .int (nI u), .ref (ad 51), .ref (ad 52), .ref (ad 53), .ref (ad 54), .ref (ad 55), .int (nI n), .int (nI rd), .int (nI came), .int mis, .int lost, .int bel]) := hM0.1
  have h51 : g 51 = .inl (k.2.1.1, 20, .inl (fun j => nI (ln j))) := hM0.2.1
  have h52 : g 52 = .inl (k.2.1.1, 800, .inl (fun j => nI (pg j))) := hM0.2.2.1
  have h53 : g 53 = .inl (k.2.1.1, 16, .inl lat) := hM0.2.2.2.1
  have h54 : g 54 = .inl (k.2.1.1, 16, .inl (fun j => nI (gar j))) := hM0.2.2.2.2.1
  have h55 : g 55 = .inl (k.2.1.1, 120, .inl (fun j => nI (T j))) := hM0.2.2.2.2.2
  obtain ⟨hplay, hrd, hn, hgar, hT, hlat⟩ := id hW
  have hu0 : 0 < u := hwf.1
  have hu : u ≤ 20 := hwf.2.1
  have hln : ∀ j, j < 20 → ln j ≤ 40 := hwf.2.2
  refine lv_aload_n hx hb dX4_idle_0 rfl (lv_at hl 0 rfl) ?_
  refine lv_iconst (v := nI 0) hx hb dX4_idle_1 (by decide) ?_
  refine m_put (ci := 4) (C := RX4) (T := TX4) (N' := 16) (ty := .int) hx hb hts (by decide +kernel) tyX4 tyX4_ok nmX4 hown hE hI 50 (by omega) h50 rfl 0 (by decide) (hts (.fieldLink RX4 29 "TapePrinterModel" "thrown" "I") (by decide +kernel)) rfl (by decide +kernel) rfl rfl (Nat.le_of_ble_eq_true rfl) dX4_idle_2 (fun H locs hI => ?_)
  obtain ⟨g1, hg1⟩ : ∃ zz, zz = va_up g 50 (.inr (4, [.int (nI 0), .int (bI fig), .int (bI uns), .int (nI play), .int (nI u), .ref (ad 51), .ref (ad 52), .ref (ad 53), .ref (ad 54), .ref (ad 55), .int (nI n), .int (nI rd), .int (nI came), .int mis, .int lost, .int bel])) := ⟨_, rfl⟩
  replace hI : mI k ad N g1 (mA ad N s.heap.size) s H locs := by rw [hg1]; exact hI
  have m_1 : g1 50 = .inr (4, [.int (nI 0), .int (bI fig), .int (bI uns), .int (nI play), .int (nI u), .ref (ad 51), .ref (ad 52), .ref (ad 53), .ref (ad 54), .ref (ad 55), .int (nI n), .int (nI rd), .int (nI came), .int mis, .int lost, .int bel]) := by rw [hg1, va_up_self]
  have m_2 : g1 51 = .inl (k.2.1.1, 20, .inl (fun j => nI (ln j))) := by rw [hg1, va_up_ne _ _ (by omega)]; exact h51
  have m_3 : g1 52 = .inl (k.2.1.1, 800, .inl (fun j => nI (pg j))) := by rw [hg1, va_up_ne _ _ (by omega)]; exact h52
  have m_4 : g1 53 = .inl (k.2.1.1, 16, .inl lat) := by rw [hg1, va_up_ne _ _ (by omega)]; exact h53
  have m_5 : g1 54 = .inl (k.2.1.1, 16, .inl (fun j => nI (gar j))) := by rw [hg1, va_up_ne _ _ (by omega)]; exact h54
  have m_6 : g1 55 = .inl (k.2.1.1, 120, .inl (fun j => nI (T j))) := by rw [hg1, va_up_ne _ _ (by omega)]; exact h55
  refine lv_iconst (v := nI 0) hx hb dX4_idle_5 (by decide) ?_
  refine lv_istore_n (lv' := [(1, .int (nI 0)), (0, .ref (ad 50))]) hx hb dX4_idle_6 rfl hl (by decide) rfl (fun ls hl => ?_)
  refine lv_iconst (v := nI 0) hx hb dX4_idle_7 (by decide) ?_
  refine lv_istore_n (lv' := [(2, .int (nI 0)), (1, .int (nI 0)), (0, .ref (ad 50))]) hx hb dX4_idle_8 rfl hl (by decide) rfl (fun ls hl => ?_)
  refine m_loop (σ := Nat) (fun i => i ≤ n) (fun i => n - i) (fun i => g1) (fun i => [(0, .ref (ad 50)), (1, .int (nI (idl uns T n i))), (2, .int (nI i))]) (nL := 3) 0 (Nat.zero_le _) hI (lv_sub hl [2, 1, 0] rfl) ?_
  rintro i hi0 ih9 H locs ls hI hl
  have hI : mI k ad N g1 (mA ad N s.heap.size) s H locs := hI
  have hl : lv_has ls 3 [(0, .ref (ad 50)), (1, .int (nI (idl uns T n i))), (2, .int (nI i))] := hl
  have hid := idl_le uns T n i
  refine lv_iload_n hx hb dX4_idle_9 rfl (lv_at hl 2 rfl) ?_
  refine lv_aload_n hx hb dX4_idle_10 rfl (lv_at hl 0 rfl) ?_
  refine m_get (ci := 4) (C := RX4) (T := TX4) (N' := 16) hx hb hts (by decide +kernel) hown hE hI 50 (by omega) m_1 rfl 10 (by decide) (hts (.fieldLink RX4 109 "TapePrinterModel" "codes" "I") (by decide +kernel)) rfl dX4_idle_11 ?_
  refine m_cgeN (tgt := 61) hx hb (by omega) (by omega) dX4_idle_14 (by decide) (fun c_14 => ?_) (fun c_14 => ?_)
  · refine lv_iload_n hx hb dX4_idle_61 rfl (lv_at hl 1 rfl) ?_
    exact m_iret hx hb hr hlocks hI (⟨⟨by rw [show i = n by omega], ⟨m_1, m_2, m_3, m_4, m_5, m_6⟩⟩, fun i hi => by rw [hg1, va_up_ne _ _ (by omega)]⟩) dX4_idle_62
  · refine lv_iload_n hx hb dX4_idle_17 rfl (lv_at hl 1 rfl) ?_
    refine lv_aload_n hx hb dX4_idle_18 rfl (lv_at hl 0 rfl) ?_
    refine m_get (ci := 4) (C := RX4) (T := TX4) (N' := 16) hx hb hts (by decide +kernel) hown hE hI 50 (by omega) m_1 rfl 9 (by decide) (hts (.fieldLink RX4 26 "TapePrinterModel" "tape" "[I") (by decide +kernel)) rfl dX4_idle_19 ?_
    refine lv_iload_n hx hb dX4_idle_22 rfl (lv_at hl 2 rfl) ?_
    refine m_iald hx hb hE hI 55 (by omega) (j := i) m_6 (by omega) (by omega) dX4_idle_23 ?_
    refine m_top (show (fun j => nI (T j)) i = nI (T i) from rfl) ?_
    have ht_7 := hT i
    refine lv_bipush (v := nI 31) hx hb dX4_idle_24 (by decide) ?_
    refine m_ceqN (tgt := 40) hx hb (by omega) (by omega) dX4_idle_26 (by decide) (fun c_26 => ?_) (fun c_26 => ?_)
    · refine lv_aload_n hx hb dX4_idle_40 rfl (lv_at hl 0 rfl) ?_
      refine lv_iload_n hx hb dX4_idle_41 rfl (lv_at hl 2 rfl) ?_
      refine m_callVi (As := [.int (nI i)]) (rest := [.int (nI (idl uns T n i))]) ⟨hx, hb, hml, hown, hts⟩ hE hI (c_X4_isIdle k l ad N g1 _ 0 uns play rd n lat gar T came mis lost bel fig u ln pg i (by omega) hW hwf (by omega) ⟨m_1, m_2, m_3, m_4, m_5, m_6⟩ (by omega)) (cwV 1 hts gX4_idle_X4_isIdle rfl rfl rfl (by decide +kernel) ⟨Nat.le_of_ble_eq_true rfl, Nat.le_of_ble_eq_true rfl⟩) (i := 50) (by omega) m_1 rfl rfl hl.1 rfl (Nat.le_of_ble_eq_true rfl) dX4_idle_42 ⟨Nat.le_of_ble_eq_true rfl, Nat.le_of_ble_eq_true rfl⟩ (m_deti (fun H locs hI => ?_))
      refine m_zeqB (tgt := 52) hx hb dX4_idle_45 (by decide) (fun c_45 => ?_) (fun c_45 => ?_)
      · refine lv_iconst (v := nI 0) hx hb dX4_idle_52 (by decide) ?_
        refine m_iaddN hx hb dX4_idle_53 ?_
        refine lv_istore_n (lv' := [(1, .int (nI ((idl uns T n i) + 0))), (0, .ref (ad 50)), (2, .int (nI i))]) hx hb dX4_idle_54 rfl hl (by decide) rfl (fun ls hl => ?_)
        have hidb : idB uns T n i = false := by unfold idB isSh; rw [decide_eq_true c_26, c_45] <;> rfl
        have hidn : idl uns T n (i + 1) = idl uns T n i := by show (if idB uns T n i then idl uns T n i + 1 else idl uns T n i) = _; rw [hidb] <;> rfl
        have hl : lv_has ls 3 [(1, .int (nI (idl uns T n (i + 1)))), (0, .ref (ad 50)), (2, .int (nI i))] := by rw [hidn]; exact hl
        refine lv_iinc (v := nI (i + 1)) (lv' := [(2, .int (nI (i + 1))), (1, .int (nI (idl uns T n (i + 1)))), (0, .ref (ad 50))]) hx hb dX4_idle_55 hl (k := 2) rfl (nI_add i 1) (by decide) rfl (fun ls hl => ?_)
        refine lv_goto (tgt := 9) hx hb dX4_idle_58 (by decide) ?_
        exact ih9 (i + 1) (show i + 1 ≤ n by omega) (show n - (i + 1) < n - i by omega) _ _ _ hI (lv_sub hl [2, 1, 0] rfl)
      · refine lv_iconst (v := nI 1) hx hb dX4_idle_48 (by decide) ?_
        refine lv_goto (tgt := 53) hx hb dX4_idle_49 (by decide) ?_
        refine m_iaddN hx hb dX4_idle_53 ?_
        refine lv_istore_n (lv' := [(1, .int (nI ((idl uns T n i) + 1))), (0, .ref (ad 50)), (2, .int (nI i))]) hx hb dX4_idle_54 rfl hl (by decide) rfl (fun ls hl => ?_)
        have hidb : idB uns T n i = true := by unfold idB isSh; rw [decide_eq_true c_26, c_45] <;> rfl
        have hidn : idl uns T n (i + 1) = idl uns T n i + 1 := by show (if idB uns T n i then idl uns T n i + 1 else idl uns T n i) = _; rw [hidb] <;> rfl
        have hl : lv_has ls 3 [(1, .int (nI (idl uns T n (i + 1)))), (0, .ref (ad 50)), (2, .int (nI i))] := by rw [hidn]; exact hl
        refine lv_iinc (v := nI (i + 1)) (lv' := [(2, .int (nI (i + 1))), (1, .int (nI (idl uns T n (i + 1)))), (0, .ref (ad 50))]) hx hb dX4_idle_55 hl (k := 2) rfl (nI_add i 1) (by decide) rfl (fun ls hl => ?_)
        refine lv_goto (tgt := 9) hx hb dX4_idle_58 (by decide) ?_
        exact ih9 (i + 1) (show i + 1 ≤ n by omega) (show n - (i + 1) < n - i by omega) _ _ _ hI (lv_sub hl [2, 1, 0] rfl)
    · refine lv_aload_n hx hb dX4_idle_29 rfl (lv_at hl 0 rfl) ?_
      refine m_get (ci := 4) (C := RX4) (T := TX4) (N' := 16) hx hb hts (by decide +kernel) hown hE hI 50 (by omega) m_1 rfl 9 (by decide) (hts (.fieldLink RX4 26 "TapePrinterModel" "tape" "[I") (by decide +kernel)) rfl dX4_idle_30 ?_
      refine lv_iload_n hx hb dX4_idle_33 rfl (lv_at hl 2 rfl) ?_
      refine m_iald hx hb hE hI 55 (by omega) (j := i) m_6 (by omega) (by omega) dX4_idle_34 ?_
      refine m_top (show (fun j => nI (T j)) i = nI (T i) from rfl) ?_
      have ht_8 := hT i
      refine lv_bipush (v := nI 27) hx hb dX4_idle_35 (by decide) ?_
      refine m_cneN (tgt := 52) hx hb (by omega) (by omega) dX4_idle_37 (by decide) (fun c_37 => ?_) (fun c_37 => ?_)
      · refine lv_iconst (v := nI 0) hx hb dX4_idle_52 (by decide) ?_
        refine m_iaddN hx hb dX4_idle_53 ?_
        refine lv_istore_n (lv' := [(1, .int (nI ((idl uns T n i) + 0))), (0, .ref (ad 50)), (2, .int (nI i))]) hx hb dX4_idle_54 rfl hl (by decide) rfl (fun ls hl => ?_)
        have hidb : idB uns T n i = false := by unfold idB isSh; rw [decide_eq_false c_26, decide_eq_false c_37] <;> rfl
        have hidn : idl uns T n (i + 1) = idl uns T n i := by show (if idB uns T n i then idl uns T n i + 1 else idl uns T n i) = _; rw [hidb] <;> rfl
        have hl : lv_has ls 3 [(1, .int (nI (idl uns T n (i + 1)))), (0, .ref (ad 50)), (2, .int (nI i))] := by rw [hidn]; exact hl
        refine lv_iinc (v := nI (i + 1)) (lv' := [(2, .int (nI (i + 1))), (1, .int (nI (idl uns T n (i + 1)))), (0, .ref (ad 50))]) hx hb dX4_idle_55 hl (k := 2) rfl (nI_add i 1) (by decide) rfl (fun ls hl => ?_)
        refine lv_goto (tgt := 9) hx hb dX4_idle_58 (by decide) ?_
        exact ih9 (i + 1) (show i + 1 ≤ n by omega) (show n - (i + 1) < n - i by omega) _ _ _ hI (lv_sub hl [2, 1, 0] rfl)
      · refine lv_aload_n hx hb dX4_idle_40 rfl (lv_at hl 0 rfl) ?_
        refine lv_iload_n hx hb dX4_idle_41 rfl (lv_at hl 2 rfl) ?_
        refine m_callVi (As := [.int (nI i)]) (rest := [.int (nI (idl uns T n i))]) ⟨hx, hb, hml, hown, hts⟩ hE hI (c_X4_isIdle k l ad N g1 _ 0 uns play rd n lat gar T came mis lost bel fig u ln pg i (by omega) hW hwf (by omega) ⟨m_1, m_2, m_3, m_4, m_5, m_6⟩ (by omega)) (cwV 1 hts gX4_idle_X4_isIdle rfl rfl rfl (by decide +kernel) ⟨Nat.le_of_ble_eq_true rfl, Nat.le_of_ble_eq_true rfl⟩) (i := 50) (by omega) m_1 rfl rfl hl.1 rfl (Nat.le_of_ble_eq_true rfl) dX4_idle_42 ⟨Nat.le_of_ble_eq_true rfl, Nat.le_of_ble_eq_true rfl⟩ (m_deti (fun H locs hI => ?_))
        refine m_zeqB (tgt := 52) hx hb dX4_idle_45 (by decide) (fun c_45 => ?_) (fun c_45 => ?_)
        · refine lv_iconst (v := nI 0) hx hb dX4_idle_52 (by decide) ?_
          refine m_iaddN hx hb dX4_idle_53 ?_
          refine lv_istore_n (lv' := [(1, .int (nI ((idl uns T n i) + 0))), (0, .ref (ad 50)), (2, .int (nI i))]) hx hb dX4_idle_54 rfl hl (by decide) rfl (fun ls hl => ?_)
          have hidb : idB uns T n i = false := by unfold idB isSh; rw [decide_eq_true c_37, Bool.or_true, c_45] <;> rfl
          have hidn : idl uns T n (i + 1) = idl uns T n i := by show (if idB uns T n i then idl uns T n i + 1 else idl uns T n i) = _; rw [hidb] <;> rfl
          have hl : lv_has ls 3 [(1, .int (nI (idl uns T n (i + 1)))), (0, .ref (ad 50)), (2, .int (nI i))] := by rw [hidn]; exact hl
          refine lv_iinc (v := nI (i + 1)) (lv' := [(2, .int (nI (i + 1))), (1, .int (nI (idl uns T n (i + 1)))), (0, .ref (ad 50))]) hx hb dX4_idle_55 hl (k := 2) rfl (nI_add i 1) (by decide) rfl (fun ls hl => ?_)
          refine lv_goto (tgt := 9) hx hb dX4_idle_58 (by decide) ?_
          exact ih9 (i + 1) (show i + 1 ≤ n by omega) (show n - (i + 1) < n - i by omega) _ _ _ hI (lv_sub hl [2, 1, 0] rfl)
        · refine lv_iconst (v := nI 1) hx hb dX4_idle_48 (by decide) ?_
          refine lv_goto (tgt := 53) hx hb dX4_idle_49 (by decide) ?_
          refine m_iaddN hx hb dX4_idle_53 ?_
          refine lv_istore_n (lv' := [(1, .int (nI ((idl uns T n i) + 1))), (0, .ref (ad 50)), (2, .int (nI i))]) hx hb dX4_idle_54 rfl hl (by decide) rfl (fun ls hl => ?_)
          have hidb : idB uns T n i = true := by unfold idB isSh; rw [decide_eq_true c_37, Bool.or_true, c_45] <;> rfl
          have hidn : idl uns T n (i + 1) = idl uns T n i + 1 := by show (if idB uns T n i then idl uns T n i + 1 else idl uns T n i) = _; rw [hidb] <;> rfl
          have hl : lv_has ls 3 [(1, .int (nI (idl uns T n (i + 1)))), (0, .ref (ad 50)), (2, .int (nI i))] := by rw [hidn]; exact hl
          refine lv_iinc (v := nI (i + 1)) (lv' := [(2, .int (nI (i + 1))), (1, .int (nI (idl uns T n (i + 1)))), (0, .ref (ad 50))]) hx hb dX4_idle_55 hl (k := 2) rfl (nI_add i 1) (by decide) rfl (fun ls hl => ?_)
          refine lv_goto (tgt := 9) hx hb dX4_idle_58 (by decide) ?_
          exact ih9 (i + 1) (show i + 1 ≤ n by omega) (show n - (i + 1) < n - i by omega) _ _ _ hI (lv_sub hl [2, 1, 0] rfl)
