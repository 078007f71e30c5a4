abbrev CRow (k : mC) (ad : Nat → Nat) (g : Nat → va_E) (i n z : Nat) (f : Nat → Int32) : Prop := g i = .inr (0, [.ref (ad (i + 1)), .int (nI z)]) ∧ g (i + 1) = .inl (k.2.1.1, n, .inl f)
/-- a place: at least 0, below n -/
def inN (x : Int32) (n : Nat) : Bool := decide (0 ≤ x) && decide (x < nI n)
theorem inN_nI {j n : Nat} (h : j < n) (hn : n < 2147483648) : inN (nI j) n = true := by
  simp only [inN, Bool.and_eq_true, decide_eq_true_eq]
  exact ⟨nI_pos' (by omega), nI_lt h hn⟩
theorem inN_ex {x : Int32} {n : Nat} (h : inN x n = true) (hn : n < 2147483648) : ∃ j : Nat, j < n ∧ x = nI j := by
  simp only [inN, Bool.and_eq_true, decide_eq_true_eq] at h
  obtain ⟨j, hj, rfl⟩ := nI_of (x := x) (fun q => by have := h.1; rw [Int32.le_iff_toInt_le] at this; rw [Int32.lt_iff_toInt_lt] at q; omega)
  exact ⟨j, (nI_ltI hj hn).mp h.2, rfl⟩
theorem inN_neg {x : Int32} {n : Nat} (h : x < 0) : inN x n = false := by
  simp only [inN, Bool.and_eq_false_iff, decide_eq_false_iff_not]
  left; intro q; rw [Int32.le_iff_toInt_le] at q; rw [Int32.lt_iff_toInt_lt] at h; omega
theorem inN_big {x : Int32} {n : Nat} (h : nI n ≤ x) : inN x n = false := by
  simp only [inN, Bool.and_eq_false_iff, decide_eq_false_iff_not]
  right; intro q; rw [Int32.le_iff_toInt_le] at h; rw [Int32.lt_iff_toInt_lt] at q; omega
theorem inN_yes {x : Int32} {n : Nat} (h : ¬ x < 0) (h2 : ¬ nI n ≤ x) : inN x n = true := by
  simp only [inN, Bool.and_eq_true, decide_eq_true_eq]
  rw [Int32.lt_iff_toInt_lt] at h; rw [Int32.le_iff_toInt_le] at h2
  rw [Int32.le_iff_toInt_le, Int32.lt_iff_toInt_lt]; constructor <;> omega
set_option maxHeartbeats 4000000 in
set_option maxRecDepth 100000 in
theorem c_X0_size (k : mC) (l : Launch) (ad : Nat → Nat) (N : Nat) (g : Nat → va_E) (sz : Nat) (i n z : Nat) (f : Nat → Int32)  (hi : i + 1 < N) (hn : n < 2147483648) (hz : z ≤ n) (hr0 : CRow k ad g i n z f) : mCi k l yX0_size wsX0_size { frames := 0, cells := 0, slots := 0, locals := 0 } ad N g sz [.ref (ad i)] (fun r g1 => r = nI z ∧ g1 = g) := by
  refine mOf (Qc := fun z9 => va_Qi (fun r g1 => r = nI z ∧ g1 = g) (mB k ad N) (mA ad N z9)) (cc := cX0_size) (maxL := 1) (ret := (some .int)) (by decide) rfl (Nat.le_of_ble_eq_true rfl) ?_
  intro p e s m below meth c hx hb hr hts hown hlocks hml hin hE hI ls hl
  have hl : lv_has ls 1 [(0, .ref (ad i))] := hl
  have h0 := hr0.1
  have h1 := hr0.2
  refine lv_aload_n hx hb dX0_size_0 rfl (lv_at hl 0 rfl) ?_
  refine m_get (ci := 0) (C := RX0) (T := TX0) (N' := 2) hx hb hts (by decide +kernel) hown hE hI i (by omega) h0 rfl 1 (by decide) (hts (.fieldLink RX0 13 "TapePrinter$Row" "size" "I") (by decide +kernel)) rfl dX0_size_1 ?_
  exact m_iret hx hb hr hlocks hI (⟨rfl, rfl⟩) dX0_size_4
set_option maxHeartbeats 4000000 in
set_option maxRecDepth 100000 in
theorem c_X0_room (k : mC) (l : Launch) (ad : Nat → Nat) (N : Nat) (g : Nat → va_E) (sz : Nat) (i n z : Nat) (f : Nat → Int32)  (hi : i + 1 < N) (hn : n < 2147483648) (hz : z ≤ n) (hr0 : CRow k ad g i n z f) : mCi k l yX0_room wsX0_room { frames := 0, cells := 0, slots := 0, locals := 0 } ad N g sz [.ref (ad i)] (fun r g1 => r = nI (n - z) ∧ g1 = g) := by
  refine mOf (Qc := fun z9 => va_Qi (fun r g1 => r = nI (n - z) ∧ g1 = g) (mB k ad N) (mA ad N z9)) (cc := cX0_room) (maxL := 1) (ret := (some .int)) (by decide) rfl (Nat.le_of_ble_eq_true rfl) ?_
  intro p e s m below meth c hx hb hr hts hown hlocks hml hin hE hI ls hl
  have hl : lv_has ls 1 [(0, .ref (ad i))] := hl
  have h0 := hr0.1
  have h1 := hr0.2
  refine lv_aload_n hx hb dX0_room_0 rfl (lv_at hl 0 rfl) ?_
  refine m_get (ci := 0) (C := RX0) (T := TX0) (N' := 2) hx hb hts (by decide +kernel) hown hE hI i (by omega) h0 rfl 0 (by decide) (hts (.fieldLink RX0 7 "TapePrinter$Row" "values" "[I") (by decide +kernel)) rfl dX0_room_1 ?_
  refine m_aleni hx hb hE hI (i + 1) (by omega) h1 dX0_room_4 ?_
  refine lv_aload_n hx hb dX0_room_5 rfl (lv_at hl 0 rfl) ?_
  refine m_get (ci := 0) (C := RX0) (T := TX0) (N' := 2) hx hb hts (by decide +kernel) hown hE hI i (by omega) h0 rfl 1 (by decide) (hts (.fieldLink RX0 13 "TapePrinter$Row" "size" "I") (by decide +kernel)) rfl dX0_room_6 ?_
  refine m_isubN hx hb (by omega) dX0_room_9 ?_
  exact m_iret hx hb hr hlocks hI (⟨rfl, rfl⟩) dX0_room_10
set_option maxHeartbeats 4000000 in
set_option maxRecDepth 100000 in
theorem c_X0_has (k : mC) (l : Launch) (ad : Nat → Nat) (N : Nat) (g : Nat → va_E) (sz : Nat) (i n z : Nat) (f : Nat → Int32) (x : Int32) (hi : i + 1 < N) (hn : n < 2147483648) (hz : z ≤ n) (hr0 : CRow k ad g i n z f) : mCi k l yX0_has wsX0_has { frames := 0, cells := 0, slots := 0, locals := 0 } ad N g sz [.ref (ad i), .int x] (fun r g1 => r = bI (inN x z) ∧ g1 = g) := by
  refine mOf (Qc := fun z9 => va_Qi (fun r g1 => r = bI (inN x z) ∧ g1 = g) (mB k ad N) (mA ad N z9)) (cc := cX0_has) (maxL := 2) (ret := (some .boolean)) (by decide) rfl (Nat.le_of_ble_eq_true rfl) ?_
  intro p e s m below meth c hx hb hr hts hown hlocks hml hin hE hI ls hl
  have hl : lv_has ls 2 [(0, .ref (ad i)), (1, .int x)] := hl
  have h0 := hr0.1
  have h1 := hr0.2
  refine lv_iload_n hx hb dX0_has_0 rfl (lv_at hl 1 rfl) ?_
  refine lv_if_lt (tgt := 25) hx hb dX0_has_1 (by decide) (fun c_1 => ?_) (fun c_1 => ?_)
  · refine lv_iconst (v := nI 0) hx hb dX0_has_25 (by decide) ?_
    refine m_top (y := bI false) (by decide) ?_
    exact m_zret (v := false) hx hb hr hlocks hI (⟨by rw [inN_neg c_1], rfl⟩) dX0_has_26
  · refine lv_iload_n hx hb dX0_has_4 rfl (lv_at hl 1 rfl) ?_
    refine lv_aload_n hx hb dX0_has_5 rfl (lv_at hl 0 rfl) ?_
    refine m_get (ci := 0) (C := RX0) (T := TX0) (N' := 2) hx hb hts (by decide +kernel) hown hE hI i (by omega) h0 rfl 1 (by decide) (hts (.fieldLink RX0 13 "TapePrinter$Row" "size" "I") (by decide +kernel)) rfl dX0_has_6 ?_
    refine lv_icmp_ge (tgt := 25) hx hb dX0_has_9 (by decide) (fun c_9 => ?_) (fun c_9 => ?_)
    · refine lv_iconst (v := nI 0) hx hb dX0_has_25 (by decide) ?_
      refine m_top (y := bI false) (by decide) ?_
      exact m_zret (v := false) hx hb hr hlocks hI (⟨by rw [inN_big c_9], rfl⟩) dX0_has_26
    · refine lv_iload_n hx hb dX0_has_12 rfl (lv_at hl 1 rfl) ?_
      refine lv_aload_n hx hb dX0_has_13 rfl (lv_at hl 0 rfl) ?_
      refine m_get (ci := 0) (C := RX0) (T := TX0) (N' := 2) hx hb hts (by decide +kernel) hown hE hI i (by omega) h0 rfl 0 (by decide) (hts (.fieldLink RX0 7 "TapePrinter$Row" "values" "[I") (by decide +kernel)) rfl dX0_has_14 ?_
      refine m_aleni hx hb hE hI (i + 1) (by omega) h1 dX0_has_17 ?_
      refine lv_icmp_ge (tgt := 25) hx hb dX0_has_18 (by decide) (fun c_18 => ?_) (fun c_18 => ?_)
      · exact absurd (show nI z ≤ x by
            have h7 := c_18; have h8 : nI z ≤ nI n := nI_le hz (by omega)
            rw [Int32.le_iff_toInt_le] at *; omega) c_9
      · refine lv_iconst (v := nI 1) hx hb dX0_has_21 (by decide) ?_
        refine lv_goto (tgt := 26) hx hb dX0_has_22 (by decide) ?_
        refine m_top (y := bI true) (by decide) ?_
        exact m_zret (v := true) hx hb hr hlocks hI (⟨by rw [inN_yes c_1 c_9], rfl⟩) dX0_has_26
set_option maxHeartbeats 4000000 in
set_option maxRecDepth 100000 in
theorem c_X0_at (k : mC) (l : Launch) (ad : Nat → Nat) (N : Nat) (g : Nat → va_E) (sz : Nat) (i n z : Nat) (f : Nat → Int32) (j : Nat) (hi : i + 1 < N) (hn : n < 2147483648) (hz : z ≤ n) (hr0 : CRow k ad g i n z f) (hj : j < z) : mCi k l yX0_at wsX0_at { frames := 1, cells := 0, slots := 0, locals := 21 } ad N g sz [.ref (ad i), .int (nI j)] (fun r g1 => r = f j ∧ g1 = g) := by
  refine mOf (Qc := fun z9 => va_Qi (fun r g1 => r = f j ∧ g1 = g) (mB k ad N) (mA ad N z9)) (cc := cX0_at) (maxL := 2) (ret := (some .int)) (by decide) rfl (Nat.le_of_ble_eq_true rfl) ?_
  intro p e s m below meth c hx hb hr hts hown hlocks hml hin hE hI ls hl
  have hl : lv_has ls 2 [(0, .ref (ad i)), (1, .int (nI j))] := hl
  have h0 := hr0.1
  have h1 := hr0.2
  refine lv_aload_n hx hb dX0_at_0 rfl (lv_at hl 0 rfl) ?_
  refine lv_iload_n hx hb dX0_at_1 rfl (lv_at hl 1 rfl) ?_
  refine m_callVi (As := [.int (nI j)]) (rest := []) ⟨hx, hb, hml, hown, hts⟩ hE hI (c_X0_has k l ad N g _ i n z f ((nI j)) (by omega) (by omega) (by omega) ⟨h0, h1⟩) (cwV 1 hts gX0_at_X0_has rfl rfl rfl (by decide +kernel) ⟨Nat.le_of_ble_eq_true rfl, Nat.le_of_ble_eq_true rfl⟩) (i := i) (by omega) h0 rfl rfl hl.1 rfl (Nat.le_of_ble_eq_true rfl) dX0_at_2 ⟨Nat.le_of_ble_eq_true rfl, Nat.le_of_ble_eq_true rfl⟩ (m_deti (fun H locs hI => ?_))
  refine m_top (y := bI true) (by rw [inN_nI hj (by omega)]) ?_
  refine m_zeqB (tgt := 17) hx hb dX0_at_5 (by decide) (fun c => absurd c (by decide)) (fun c_5 => ?_)
  refine lv_aload_n hx hb dX0_at_8 rfl (lv_at hl 0 rfl) ?_
  refine m_get (ci := 0) (C := RX0) (T := TX0) (N' := 2) hx hb hts (by decide +kernel) hown hE hI i (by omega) h0 rfl 0 (by decide) (hts (.fieldLink RX0 7 "TapePrinter$Row" "values" "[I") (by decide +kernel)) rfl dX0_at_9 ?_
  refine lv_iload_n hx hb dX0_at_12 rfl (lv_at hl 1 rfl) ?_
  refine m_iald hx hb hE hI (i + 1) (by omega) (j := j) h1 (by omega) (by omega) dX0_at_13 ?_
  refine lv_goto (tgt := 18) hx hb dX0_at_14 (by decide) ?_
  exact m_iret hx hb hr hlocks hI (⟨rfl, rfl⟩) dX0_at_18
set_option maxHeartbeats 4000000 in
set_option maxRecDepth 100000 in
theorem c_X0_change (k : mC) (l : Launch) (ad : Nat → Nat) (N : Nat) (g : Nat → va_E) (sz : Nat) (i n z : Nat) (f : Nat → Int32) (j : Nat) (v : Int32) (hi : i + 1 < N) (hn : n < 2147483648) (hz : z ≤ n) (hr0 : CRow k ad g i n z f) (hj : j < z) : mCv k l yX0_change wsX0_change { frames := 1, cells := 0, slots := 0, locals := 21 } ad N g sz [.ref (ad i), .int (nI j), .int v] (fun g1 => g1 = va_up g (i + 1) (.inl (k.2.1.1, n, .inl (upd f j v)))) := by
  refine mOf (Qc := fun z9 => va_Qv (fun g1 => g1 = va_up g (i + 1) (.inl (k.2.1.1, n, .inl (upd f j v)))) (mB k ad N) (mA ad N z9)) (cc := cX0_change) (maxL := 3) (ret := none) (by decide) rfl (Nat.le_of_ble_eq_true rfl) ?_
  intro p e s m below meth c hx hb hr hts hown hlocks hml hin hE hI ls hl
  have hl : lv_has ls 3 [(0, .ref (ad i)), (1, .int (nI j)), (2, .int v)] := hl
  have h0 := hr0.1
  have h1 := hr0.2
  refine lv_aload_n hx hb dX0_change_0 rfl (lv_at hl 0 rfl) ?_
  refine lv_iload_n hx hb dX0_change_1 rfl (lv_at hl 1 rfl) ?_
  refine m_callVi (As := [.int (nI j)]) (rest := []) ⟨hx, hb, hml, hown, hts⟩ hE hI (c_X0_has k l ad N g _ i n z f ((nI j)) (by omega) (by omega) (by omega) ⟨h0, h1⟩) (cwV 1 hts gX0_change_X0_has rfl rfl rfl (by decide +kernel) ⟨Nat.le_of_ble_eq_true rfl, Nat.le_of_ble_eq_true rfl⟩) (i := i) (by omega) h0 rfl rfl hl.1 rfl (Nat.le_of_ble_eq_true rfl) dX0_change_2 ⟨Nat.le_of_ble_eq_true rfl, Nat.le_of_ble_eq_true rfl⟩ (m_deti (fun H locs hI => ?_))
  refine m_top (y := bI true) (by rw [inN_nI hj (by omega)]) ?_
  refine m_zeqB (tgt := 15) hx hb dX0_change_5 (by decide) (fun c => absurd c (by decide)) (fun c_5 => ?_)
  refine lv_aload_n hx hb dX0_change_8 rfl (lv_at hl 0 rfl) ?_
  refine m_get (ci := 0) (C := RX0) (T := TX0) (N' := 2) hx hb hts (by decide +kernel) hown hE hI i (by omega) h0 rfl 0 (by decide) (hts (.fieldLink RX0 7 "TapePrinter$Row" "values" "[I") (by decide +kernel)) rfl dX0_change_9 ?_
  refine lv_iload_n hx hb dX0_change_12 rfl (lv_at hl 1 rfl) ?_
  refine lv_iload_n hx hb dX0_change_13 rfl (lv_at hl 2 rfl) ?_
  refine m_iast hx hb hE hI (i + 1) (by omega) (j := j) h1 (by omega) (by omega) dX0_change_14 (fun H locs hI => ?_)
  obtain ⟨g1, hg1⟩ : ∃ zz, zz = va_up g (i + 1) (.inl (k.2.1.1, n, .inl (upd f j v))) := ⟨_, rfl⟩
  replace hI : mI k ad N g1 (mA ad N s.heap.size) s H locs := by rw [hg1]; exact hI
  have m_1 : g1 i = .inr (0, [.ref (ad (i + 1)), .int (nI z)]) := by rw [hg1, va_up_ne _ _ (by omega)]; exact h0
  have m_2 : g1 (i + 1) = .inl (k.2.1.1, n, .inl (upd f j v)) := by rw [hg1, va_up_self]
  exact m_vret hx hb hr hlocks hI (hg1) dX0_change_15
set_option maxHeartbeats 4000000 in
set_option maxRecDepth 100000 in
theorem c_X0_add_in (k : mC) (l : Launch) (ad : Nat → Nat) (N : Nat) (g : Nat → va_E) (sz : Nat) (i n z : Nat) (f : Nat → Int32) (v : Int32) (hi : i + 1 < N) (hn : n < 2147483648) (hz : z ≤ n) (hr0 : CRow k ad g i n z f) (hlt : z < n) : mCi k l yX0_add wsX0_add { frames := 0, cells := 0, slots := 0, locals := 0 } ad N g sz [.ref (ad i), .int v] (fun r g1 => r = bI true ∧ g1 = va_up (va_up g (i + 1) (.inl (k.2.1.1, n, .inl (upd f z v)))) i (.inr (0, [.ref (ad (i + 1)), .int (nI (z + 1))]))) := by
  refine mOf (Qc := fun z9 => va_Qi (fun r g1 => r = bI true ∧ g1 = va_up (va_up g (i + 1) (.inl (k.2.1.1, n, .inl (upd f z v)))) i (.inr (0, [.ref (ad (i + 1)), .int (nI (z + 1))]))) (mB k ad N) (mA ad N z9)) (cc := cX0_add) (maxL := 2) (ret := (some .boolean)) (by decide) rfl (Nat.le_of_ble_eq_true rfl) ?_
  intro p e s m below meth c hx hb hr hts hown hlocks hml hin hE hI ls hl
  have hl : lv_has ls 2 [(0, .ref (ad i)), (1, .int v)] := hl
  have h0 := hr0.1
  have h1 := hr0.2
  refine lv_aload_n hx hb dX0_add_0 rfl (lv_at hl 0 rfl) ?_
  refine m_get (ci := 0) (C := RX0) (T := TX0) (N' := 2) hx hb hts (by decide +kernel) hown hE hI i (by omega) h0 rfl 1 (by decide) (hts (.fieldLink RX0 13 "TapePrinter$Row" "size" "I") (by decide +kernel)) rfl dX0_add_1 ?_
  refine m_zltN (tgt := 19) hx hb (by omega) dX0_add_4 (by decide) ?_
  refine lv_aload_n hx hb dX0_add_7 rfl (lv_at hl 0 rfl) ?_
  refine m_get (ci := 0) (C := RX0) (T := TX0) (N' := 2) hx hb hts (by decide +kernel) hown hE hI i (by omega) h0 rfl 1 (by decide) (hts (.fieldLink RX0 13 "TapePrinter$Row" "size" "I") (by decide +kernel)) rfl dX0_add_8 ?_
  refine lv_aload_n hx hb dX0_add_11 rfl (lv_at hl 0 rfl) ?_
  refine m_get (ci := 0) (C := RX0) (T := TX0) (N' := 2) hx hb hts (by decide +kernel) hown hE hI i (by omega) h0 rfl 0 (by decide) (hts (.fieldLink RX0 7 "TapePrinter$Row" "values" "[I") (by decide +kernel)) rfl dX0_add_12 ?_
  refine m_aleni hx hb hE hI (i + 1) (by omega) h1 dX0_add_15 ?_
  refine m_cltN (tgt := 21) hx hb (by omega) (by omega) dX0_add_16 (by decide) (fun c_16 => ?_) (fun c_16 => ?_)
  · refine lv_aload_n hx hb dX0_add_21 rfl (lv_at hl 0 rfl) ?_
    refine m_get (ci := 0) (C := RX0) (T := TX0) (N' := 2) hx hb hts (by decide +kernel) hown hE hI i (by omega) h0 rfl 0 (by decide) (hts (.fieldLink RX0 7 "TapePrinter$Row" "values" "[I") (by decide +kernel)) rfl dX0_add_22 ?_
    refine lv_aload_n hx hb dX0_add_25 rfl (lv_at hl 0 rfl) ?_
    refine m_get (ci := 0) (C := RX0) (T := TX0) (N' := 2) hx hb hts (by decide +kernel) hown hE hI i (by omega) h0 rfl 1 (by decide) (hts (.fieldLink RX0 13 "TapePrinter$Row" "size" "I") (by decide +kernel)) rfl dX0_add_26 ?_
    refine lv_iload_n hx hb dX0_add_29 rfl (lv_at hl 1 rfl) ?_
    refine m_iast hx hb hE hI (i + 1) (by omega) (j := z) h1 (by omega) (by omega) dX0_add_30 (fun H locs hI => ?_)
    obtain ⟨g1, hg1⟩ : ∃ zz, zz = va_up g (i + 1) (.inl (k.2.1.1, n, .inl (upd f z v))) := ⟨_, rfl⟩
    replace hI : mI k ad N g1 (mA ad N s.heap.size) s H locs := by rw [hg1]; exact hI
    have m_1 : g1 i = .inr (0, [.ref (ad (i + 1)), .int (nI z)]) := by rw [hg1, va_up_ne _ _ (by omega)]; exact h0
    have m_2 : g1 (i + 1) = .inl (k.2.1.1, n, .inl (upd f z v)) := by rw [hg1, va_up_self]
    refine lv_aload_n hx hb dX0_add_31 rfl (lv_at hl 0 rfl) ?_
    refine lv_dup hx hb dX0_add_32 rfl ?_
    refine m_get (ci := 0) (C := RX0) (T := TX0) (N' := 2) hx hb hts (by decide +kernel) hown hE hI i (by omega) m_1 rfl 1 (by decide) (hts (.fieldLink RX0 13 "TapePrinter$Row" "size" "I") (by decide +kernel)) rfl dX0_add_33 ?_
    refine lv_iconst (v := nI 1) hx hb dX0_add_36 (by decide) ?_
    refine m_iaddN hx hb dX0_add_37 ?_
    refine m_put (ci := 0) (C := RX0) (T := TX0) (N' := 2) (ty := .int) hx hb hts (by decide +kernel) tyX0 tyX0_ok nmX0 hown hE hI i (by omega) m_1 rfl 1 (by decide) (hts (.fieldLink RX0 13 "TapePrinter$Row" "size" "I") (by decide +kernel)) rfl (by decide +kernel) rfl rfl (Nat.le_of_ble_eq_true rfl) dX0_add_38 (fun H locs hI => ?_)
    obtain ⟨g2, hg2⟩ : ∃ zz, zz = va_up g1 i (.inr (0, [.ref (ad (i + 1)), .int (nI (z + 1))])) := ⟨_, rfl⟩
    replace hI : mI k ad N g2 (mA ad N s.heap.size) s H locs := by rw [hg2]; exact hI
    have m_3 : g2 i = .inr (0, [.ref (ad (i + 1)), .int (nI (z + 1))]) := by rw [hg2, va_up_self]
    have m_4 : g2 (i + 1) = .inl (k.2.1.1, n, .inl (upd f z v)) := by rw [hg2, va_up_ne _ _ (by omega)]; exact m_2
    refine lv_iconst (v := nI 1) hx hb dX0_add_41 (by decide) ?_
    refine m_top (y := bI true) (by decide) ?_
    exact m_zret (v := true) hx hb hr hlocks hI (⟨rfl, by rw [hg2, hg1]⟩) dX0_add_42
  · exact absurd c_16 (by omega)
set_option maxHeartbeats 4000000 in
set_option maxRecDepth 100000 in
theorem c_X0_add_out (k : mC) (l : Launch) (ad : Nat → Nat) (N : Nat) (g : Nat → va_E) (sz : Nat) (i n z : Nat) (f : Nat → Int32) (v : Int32) (hi : i + 1 < N) (hn : n < 2147483648) (hz : z ≤ n) (hr0 : CRow k ad g i n z f) (hge : z = n) : mCi k l yX0_add wsX0_add { frames := 0, cells := 0, slots := 0, locals := 0 } ad N g sz [.ref (ad i), .int v] (fun r g1 => r = bI false ∧ g1 = g) := by
  refine mOf (Qc := fun z9 => va_Qi (fun r g1 => r = bI false ∧ g1 = g) (mB k ad N) (mA ad N z9)) (cc := cX0_add) (maxL := 2) (ret := (some .boolean)) (by decide) rfl (Nat.le_of_ble_eq_true rfl) ?_
  intro p e s m below meth c hx hb hr hts hown hlocks hml hin hE hI ls hl
  have hl : lv_has ls 2 [(0, .ref (ad i)), (1, .int v)] := hl
  have h0 := hr0.1
  have h1 := hr0.2
  refine lv_aload_n hx hb dX0_add_0 rfl (lv_at hl 0 rfl) ?_
  refine m_get (ci := 0) (C := RX0) (T := TX0) (N' := 2) hx hb hts (by decide +kernel) hown hE hI i (by omega) h0 rfl 1 (by decide) (hts (.fieldLink RX0 13 "TapePrinter$Row" "size" "I") (by decide +kernel)) rfl dX0_add_1 ?_
  refine m_zltN (tgt := 19) hx hb (by omega) dX0_add_4 (by decide) ?_
  refine lv_aload_n hx hb dX0_add_7 rfl (lv_at hl 0 rfl) ?_
  refine m_get (ci := 0) (C := RX0) (T := TX0) (N' := 2) hx hb hts (by decide +kernel) hown hE hI i (by omega) h0 rfl 1 (by decide) (hts (.fieldLink RX0 13 "TapePrinter$Row" "size" "I") (by decide +kernel)) rfl dX0_add_8 ?_
  refine lv_aload_n hx hb dX0_add_11 rfl (lv_at hl 0 rfl) ?_
  refine m_get (ci := 0) (C := RX0) (T := TX0) (N' := 2) hx hb hts (by decide +kernel) hown hE hI i (by omega) h0 rfl 0 (by decide) (hts (.fieldLink RX0 7 "TapePrinter$Row" "values" "[I") (by decide +kernel)) rfl dX0_add_12 ?_
  refine m_aleni hx hb hE hI (i + 1) (by omega) h1 dX0_add_15 ?_
  refine m_cltN (tgt := 21) hx hb (by omega) (by omega) dX0_add_16 (by decide) (fun c_16 => ?_) (fun c_16 => ?_)
  · exact absurd c_16 (by omega)
  · refine lv_iconst (v := nI 0) hx hb dX0_add_19 (by decide) ?_
    refine m_top (y := bI false) (by decide) ?_
    exact m_zret (v := false) hx hb hr hlocks hI (⟨rfl, rfl⟩) dX0_add_20
set_option maxHeartbeats 4000000 in
set_option maxRecDepth 100000 in
theorem c_X0_clear (k : mC) (l : Launch) (ad : Nat → Nat) (N : Nat) (g : Nat → va_E) (sz : Nat) (i n z : Nat) (f : Nat → Int32)  (hi : i + 1 < N) (hn : n < 2147483648) (hz : z ≤ n) (hr0 : CRow k ad g i n z f) : mCv k l yX0_clear wsX0_clear { frames := 0, cells := 0, slots := 0, locals := 0 } ad N g sz [.ref (ad i)] (fun g1 => g1 = va_up g i (.inr (0, [.ref (ad (i + 1)), .int (nI 0)]))) := by
  refine mOf (Qc := fun z9 => va_Qv (fun g1 => g1 = va_up g i (.inr (0, [.ref (ad (i + 1)), .int (nI 0)]))) (mB k ad N) (mA ad N z9)) (cc := cX0_clear) (maxL := 1) (ret := none) (by decide) rfl (Nat.le_of_ble_eq_true rfl) ?_
  intro p e s m below meth c hx hb hr hts hown hlocks hml hin hE hI ls hl
  have hl : lv_has ls 1 [(0, .ref (ad i))] := hl
  have h0 := hr0.1
  have h1 := hr0.2
  refine lv_aload_n hx hb dX0_clear_0 rfl (lv_at hl 0 rfl) ?_
  refine lv_iconst (v := nI 0) hx hb dX0_clear_1 (by decide) ?_
  refine m_put (ci := 0) (C := RX0) (T := TX0) (N' := 2) (ty := .int) hx hb hts (by decide +kernel) tyX0 tyX0_ok nmX0 hown hE hI i (by omega) h0 rfl 1 (by decide) (hts (.fieldLink RX0 13 "TapePrinter$Row" "size" "I") (by decide +kernel)) rfl (by decide +kernel) rfl rfl (Nat.le_of_ble_eq_true rfl) dX0_clear_2 (fun H locs hI => ?_)
  obtain ⟨g1, hg1⟩ : ∃ zz, zz = va_up g i (.inr (0, [.ref (ad (i + 1)), .int (nI 0)])) := ⟨_, rfl⟩
  replace hI : mI k ad N g1 (mA ad N s.heap.size) s H locs := by rw [hg1]; exact hI
  have m_1 : g1 i = .inr (0, [.ref (ad (i + 1)), .int (nI 0)]) := by rw [hg1, va_up_self]
  have m_2 : g1 (i + 1) = .inl (k.2.1.1, n, .inl f) := by rw [hg1, va_up_ne _ _ (by omega)]; exact h1
  exact m_vret hx hb hr hlocks hI (hg1) dX0_clear_5
