/-- the sheet: its row objects stand at the roles 8 + 2 * j -/
abbrev CSh (k : mC) (ad : Nat → Nat) (g : Nat → va_E) (fi u : Nat) (z : Nat → Nat) (F : Nat → Nat → Nat) (r : Nat → Option Nat) : Prop :=
  g 6 = .inr (1, [.ref (ad 7), .int (nI fi), .int (nI u)]) ∧ g 7 = .inl (k.2.1.2.1, 20, .inr (.inr (.inr (.inr r)))) ∧ (∀ j, j < 20 → r j = some (ad (8 + 2 * j))) ∧ ∀ j, j < 20 → CRow k ad g (8 + 2 * j) 40 (z j) (fun i => nI (F j i)) ∧ z j ≤ 40
/-- the slot of a line -/
def slt (fi l : Nat) : Nat := (fi + l) % 20
theorem slt_lt (fi l : Nat) : slt fi l < 20 := Nat.mod_lt _ (by omega)
/-- characters of the first n lines -/
def sumz (z : Nat → Nat) (fi : Nat) : Nat → Nat
  | 0 => 0
  | n + 1 => sumz z fi n + z (slt fi n)
theorem sumz_le {z : Nat → Nat} (h : ∀ j, j < 20 → z j ≤ 40) (fi n : Nat) : sumz z fi n ≤ 40 * n := by
  induction n with
  | zero => exact Nat.le_refl _
  | succ n ih => have := h _ (slt_lt fi n); simp only [sumz]; omega
/-- the wire -/
abbrev CWi (k : mC) (ad : Nat → Nat) (g : Nat → va_E) (play : Nat) (lat : Nat → Int32) (gar : Nat → Nat) : Prop :=
  g 1 = .inr (2, [.ref (ad 2), .ref (ad 4), .int (nI play)]) ∧ CRow k ad g 2 16 16 lat ∧ CRow k ad g 4 16 16 (fun j => nI (gar j))
/-- what a code is read as: the play, the lateness, the garbled units, the code -/
def rdF (play : Nat) (lt : Int32) (q c : Nat) : Nat := if nI play < lt then (c ^^^ q) / 2 else if nI play < -lt then (2 * (c ^^^ q) + 1) % 32 else c ^^^ q
theorem xor32 : ∀ a, a < 32 → ∀ b, b < 32 → nI a ^^^ nI b = nI (a ^^^ b) ∧ a ^^^ b < 32 := by decide +kernel
theorem shr32 : ∀ a, a < 32 → nI a >>> (nI 1 &&& 31) = nI (a / 2) := by decide +kernel
theorem shl32 : ∀ a, a < 32 → ((nI a <<< (nI 1 &&& 31)) ||| nI 1) &&& nI 31 = nI ((2 * a + 1) % 32) := by decide +kernel
theorem rdF_lt {play q c : Nat} {lt : Int32} (hc : c < 32) (hq : q < 32) : rdF play lt q c < 32 := by
  have h := (xor32 c hc q hq).2
  unfold rdF
  split
  · omega
  · split <;> omega
theorem slt_back {fi : Nat} (h : fi < 20) : slt (slt fi 1) 19 = fi := by unfold slt; omega
theorem upd_nI (f : Nat → Nat) (n v : Nat) : upd (fun i => nI (f i)) n (nI v) = fun i => nI (va_up f n v i) := by
  funext i
  unfold upd va_up
  split <;> rfl
theorem CRow.kept {k : mC} {ad : Nat → Nat} {g g1 : Nat → va_E} {i n z : Nat} {f : Nat → Int32} (h : CRow k ad g i n z f) (h1 : g1 i = g i) (h2 : g1 (i + 1) = g (i + 1)) : CRow k ad g1 i n z f := ⟨h1.trans h.1, h2.trans h.2⟩
theorem CSh.six {k : mC} {ad : Nat → Nat} {g : Nat → va_E} {fi u : Nat} {z : Nat → Nat} {F : Nat → Nat → Nat} {r : Nat → Option Nat} (h : CSh k ad g fi u z F r) (fi1 u1 : Nat) : CSh k ad (va_up g 6 (.inr (1, [.ref (ad 7), .int (nI fi1), .int (nI u1)]))) fi1 u1 z F r := by
  obtain ⟨-, h7, hr, hrow⟩ := h
  refine ⟨va_up_self _ _ _, (va_up_ne _ _ (by omega)).trans h7, hr, fun j hj => ⟨(hrow j hj).1.kept (va_up_ne _ _ (by omega)) (va_up_ne _ _ (by omega)), (hrow j hj).2⟩⟩
/-- one row of the page anew -/
theorem CSh.put {k : mC} {ad : Nat → Nat} {g g1 : Nat → va_E} {fi u : Nat} {z : Nat → Nat} {F : Nat → Nat → Nat} {r : Nat → Option Nat} (h : CSh k ad g fi u z F r) {q n : Nat} {f : Nat → Nat} (hn : n ≤ 40) (hq : CRow k ad g1 (8 + 2 * q) 40 n (fun i => nI (f i))) (ho : ∀ i, i ≠ 8 + 2 * q → i ≠ 8 + 2 * q + 1 → g1 i = g i) : CSh k ad g1 fi u (va_up z q n) (va_up F q f) r := by
  obtain ⟨h6, h7, hr, hrow⟩ := h
  refine ⟨(ho 6 (by omega) (by omega)).trans h6, (ho 7 (by omega) (by omega)).trans h7, hr, fun j hj => ?_⟩
  by_cases hjq : j = q
  · subst hjq
    rw [va_up_self, va_up_self]
    exact ⟨hq, hn⟩
  · rw [va_up_ne _ _ hjq, va_up_ne _ _ hjq]
    exact ⟨(hrow j hj).1.kept (ho _ (by omega) (by omega)) (ho _ (by omega) (by omega)), (hrow j hj).2⟩
theorem CSh.kept {k : mC} {ad : Nat → Nat} {g g1 : Nat → va_E} {fi u : Nat} {z : Nat → Nat} {F : Nat → Nat → Nat} {r : Nat → Option Nat} (h : CSh k ad g fi u z F r) (ho : ∀ i, 6 ≤ i → i < 48 → g1 i = g i) : CSh k ad g1 fi u z F r :=
  ⟨(ho 6 (by omega) (by omega)).trans h.1, (ho 7 (by omega) (by omega)).trans h.2.1, h.2.2.1, fun j hj => ⟨(h.2.2.2 j hj).1.kept (ho _ (by omega) (by omega)) (ho _ (by omega) (by omega)), (h.2.2.2 j hj).2⟩⟩
theorem va_up_id {α : Type} (f : Nat → α) (k : Nat) : va_up f k (f k) = f := by
  funext i
  unfold va_up
  split
  · rename_i h; rw [h]
  · rfl
set_option maxHeartbeats 4000000 in
set_option maxRecDepth 100000 in
theorem c_X1_lines (k : mC) (l : Launch) (ad : Nat → Nat) (N : Nat) (g : Nat → va_E) (sz : Nat) (fi u : Nat) (z : Nat → Nat) (F : Nat → Nat → Nat) (r : Nat → Option Nat)  (hN : 48 ≤ N) (hfi : fi < 20) (hu : u ≤ 20) (hu0 : 0 < u) (hS0 : CSh k ad g fi u z F r) : mCi k l yX1_lines wsX1_lines { frames := 0, cells := 0, slots := 0, locals := 0 } ad N g sz [.ref (ad 6)] (fun r1 g1 => r1 = nI u ∧ g1 = g) := by
  refine mOf (Qc := fun z9 => va_Qi (fun r1 g1 => r1 = nI u ∧ g1 = g) (mB k ad N) (mA ad N z9)) (cc := cX1_lines) (maxL := 1) (ret := (some .int)) (by decide) rfl (Nat.le_of_ble_eq_true rfl) ?_
  intro p e s m below meth c hx hb hr hts hown hlocks hml hin hE hI ls hl
  have hl : lv_has ls 1 [(0, .ref (ad 6))] := hl
  obtain ⟨h6, h7, hr0, hrow⟩ := id hS0
  refine lv_aload_n hx hb dX1_lines_0 rfl (lv_at hl 0 rfl) ?_
  refine m_get (ci := 1) (C := RX1) (T := TX1) (N' := 3) hx hb hts (by decide +kernel) hown hE hI 6 (by omega) h6 rfl 2 (by decide) (hts (.fieldLink RX1 17 "TapePrinter$Sheet" "used" "I") (by decide +kernel)) rfl dX1_lines_1 ?_
  exact m_iret hx hb hr hlocks hI (⟨rfl, rfl⟩) dX1_lines_4
set_option maxHeartbeats 4000000 in
set_option maxRecDepth 100000 in
theorem c_X1_row_in (k : mC) (l : Launch) (ad : Nat → Nat) (N : Nat) (g : Nat → va_E) (sz : Nat) (fi u : Nat) (z : Nat → Nat) (F : Nat → Nat → Nat) (r : Nat → Option Nat) (ln : Nat) (hN : 48 ≤ N) (hfi : fi < 20) (hu : u ≤ 20) (hu0 : 0 < u) (hS0 : CSh k ad g fi u z F r) (hlu : ln < u) : mCq k l yX1_row wsX1_row { frames := 0, cells := 0, slots := 0, locals := 0 } ad N g sz [.ref (ad 6), .int (nI ln)] (fun r1 g1 => r1 = some (ad (8 + 2 * slt fi ln)) ∧ g1 = g) := by
  refine mOf (Qc := fun z9 => va_Qq (fun r1 g1 => r1 = some (ad (8 + 2 * slt fi ln)) ∧ g1 = g) (mB k ad N) (mA ad N z9)) (cc := cX1_row) (maxL := 3) (ret := (some (.object "TapePrinter$Row"))) (by decide) rfl (Nat.le_of_ble_eq_true rfl) ?_
  intro p e s m below meth c hx hb hr hts hown hlocks hml hin hE hI ls hl
  have hl : lv_has ls 3 [(0, .ref (ad 6)), (1, .int (nI ln))] := hl
  obtain ⟨h6, h7, hr0, hrow⟩ := id hS0
  refine lv_iload_n hx hb dX1_row_0 rfl (lv_at hl 1 rfl) ?_
  refine m_zltN (tgt := 12) hx hb (by omega) dX1_row_1 (by decide) ?_
  refine lv_iload_n hx hb dX1_row_4 rfl (lv_at hl 1 rfl) ?_
  refine lv_aload_n hx hb dX1_row_5 rfl (lv_at hl 0 rfl) ?_
  refine m_get (ci := 1) (C := RX1) (T := TX1) (N' := 3) hx hb hts (by decide +kernel) hown hE hI 6 (by omega) h6 rfl 2 (by decide) (hts (.fieldLink RX1 17 "TapePrinter$Sheet" "used" "I") (by decide +kernel)) rfl dX1_row_6 ?_
  refine m_cltN (tgt := 14) hx hb (by omega) (by omega) dX1_row_9 (by decide) (fun c_9 => ?_) (fun c_9 => ?_)
  · refine lv_aload_n hx hb dX1_row_14 rfl (lv_at hl 0 rfl) ?_
    refine m_get (ci := 1) (C := RX1) (T := TX1) (N' := 3) hx hb hts (by decide +kernel) hown hE hI 6 (by omega) h6 rfl 1 (by decide) (hts (.fieldLink RX1 24 "TapePrinter$Sheet" "first" "I") (by decide +kernel)) rfl dX1_row_15 ?_
    refine lv_iload_n hx hb dX1_row_18 rfl (lv_at hl 1 rfl) ?_
    refine m_iaddN hx hb dX1_row_19 ?_
    refine lv_bipush (v := nI 20) hx hb dX1_row_20 (by decide) ?_
    refine m_iremN hx hb (by omega) (by omega) (by omega) dX1_row_22 ?_
    refine m_top (show nI ((fi + ln) % 20) = nI (slt fi ln) from rfl) ?_
    have hsl := slt_lt fi ln
    refine lv_istore_n (lv' := [(2, .int (nI (slt fi ln))), (0, .ref (ad 6)), (1, .int (nI ln))]) hx hb dX1_row_23 rfl hl (by decide) rfl (fun ls hl => ?_)
    refine lv_iload_n hx hb dX1_row_24 rfl (lv_at hl 0 rfl) ?_
    refine m_zltN (tgt := 46) hx hb (by omega) dX1_row_25 (by decide) ?_
    refine lv_iload_n hx hb dX1_row_28 rfl (lv_at hl 0 rfl) ?_
    refine lv_aload_n hx hb dX1_row_29 rfl (lv_at hl 1 rfl) ?_
    refine m_get (ci := 1) (C := RX1) (T := TX1) (N' := 3) hx hb hts (by decide +kernel) hown hE hI 6 (by omega) h6 rfl 0 (by decide) (hts (.fieldLink RX1 11 "TapePrinter$Sheet" "rows" "[LTapePrinter$Row;") (by decide +kernel)) rfl dX1_row_30 ?_
    refine m_alenq hx hb hE hI 7 (by omega) h7 dX1_row_33 ?_
    refine m_cgeN (tgt := 46) hx hb (by omega) (by omega) dX1_row_34 (by decide) (fun c_34 => ?_) (fun c_34 => ?_)
    · exact absurd c_34 (by omega)
    · refine lv_aload_n hx hb dX1_row_37 rfl (lv_at hl 1 rfl) ?_
      refine m_get (ci := 1) (C := RX1) (T := TX1) (N' := 3) hx hb hts (by decide +kernel) hown hE hI 6 (by omega) h6 rfl 0 (by decide) (hts (.fieldLink RX1 11 "TapePrinter$Sheet" "rows" "[LTapePrinter$Row;") (by decide +kernel)) rfl dX1_row_38 ?_
      refine lv_iload_n hx hb dX1_row_41 rfl (lv_at hl 0 rfl) ?_
      refine m_aldq hx hb hE hI 7 (by omega) (j := slt fi ln) h7 (by omega) (by omega) dX1_row_42 ?_
      refine m_rf (hr0 _ (slt_lt fi ln)) ?_
      refine lv_goto (tgt := 47) hx hb dX1_row_43 (by decide) ?_
      exact m_aret (v := some (ad (8 + 2 * slt fi ln))) hx hb hr hlocks hI (⟨rfl, rfl⟩) dX1_row_47
  · exact absurd c_9 (by omega)
set_option maxHeartbeats 4000000 in
set_option maxRecDepth 100000 in
theorem c_X1_row_out (k : mC) (l : Launch) (ad : Nat → Nat) (N : Nat) (g : Nat → va_E) (sz : Nat) (fi u : Nat) (z : Nat → Nat) (F : Nat → Nat → Nat) (r : Nat → Option Nat) (x : Int32) (hN : 48 ≤ N) (hfi : fi < 20) (hu : u ≤ 20) (hu0 : 0 < u) (hS0 : CSh k ad g fi u z F r) (ho : x < 0 ∨ nI u ≤ x) : mCq k l yX1_row wsX1_row { frames := 0, cells := 0, slots := 0, locals := 0 } ad N g sz [.ref (ad 6), .int x] (fun r1 g1 => r1 = none ∧ g1 = g) := by
  refine mOf (Qc := fun z9 => va_Qq (fun r1 g1 => r1 = none ∧ g1 = g) (mB k ad N) (mA ad N z9)) (cc := cX1_row) (maxL := 3) (ret := (some (.object "TapePrinter$Row"))) (by decide) rfl (Nat.le_of_ble_eq_true rfl) ?_
  intro p e s m below meth c hx hb hr hts hown hlocks hml hin hE hI ls hl
  have hl : lv_has ls 3 [(0, .ref (ad 6)), (1, .int x)] := hl
  obtain ⟨h6, h7, hr0, hrow⟩ := id hS0
  refine lv_iload_n hx hb dX1_row_0 rfl (lv_at hl 1 rfl) ?_
  refine lv_if_lt (tgt := 12) hx hb dX1_row_1 (by decide) (fun c_1 => ?_) (fun c_1 => ?_)
  · refine lv_null hx hb dX1_row_12 ?_
    exact m_aret (v := none) hx hb hr hlocks hI (⟨rfl, rfl⟩) dX1_row_13
  · refine lv_iload_n hx hb dX1_row_4 rfl (lv_at hl 1 rfl) ?_
    refine lv_aload_n hx hb dX1_row_5 rfl (lv_at hl 0 rfl) ?_
    refine m_get (ci := 1) (C := RX1) (T := TX1) (N' := 3) hx hb hts (by decide +kernel) hown hE hI 6 (by omega) h6 rfl 2 (by decide) (hts (.fieldLink RX1 17 "TapePrinter$Sheet" "used" "I") (by decide +kernel)) rfl dX1_row_6 ?_
    refine lv_icmp_lt (tgt := 14) hx hb dX1_row_9 (by decide) (fun c_9 => ?_) (fun c_9 => ?_)
    · exact absurd ho (fun q => q.elim c_1 (fun q => by
          rw [Int32.lt_iff_toInt_lt] at c_9; rw [Int32.le_iff_toInt_le] at q; omega))
    · refine lv_null hx hb dX1_row_12 ?_
      exact m_aret (v := none) hx hb hr hlocks hI (⟨rfl, rfl⟩) dX1_row_13
set_option maxHeartbeats 4000000 in
set_option maxRecDepth 100000 in
theorem c_X1_add_in (k : mC) (l : Launch) (ad : Nat → Nat) (N : Nat) (g : Nat → va_E) (sz : Nat) (fi u : Nat) (z : Nat → Nat) (F : Nat → Nat → Nat) (r : Nat → Option Nat) (ch : Nat) (hN : 48 ≤ N) (hfi : fi < 20) (hu : u ≤ 20) (hu0 : 0 < u) (hS0 : CSh k ad g fi u z F r) (hz : z (slt fi (u - 1)) < 40) : mCi k l yX1_add wsX1_add { frames := 1, cells := 0, slots := 0, locals := 22 } ad N g sz [.ref (ad 6), .int (nI ch)] (fun r1 g1 => r1 = bI true ∧ CSh k ad g1 fi u (va_up z (slt fi (u - 1)) (z (slt fi (u - 1)) + 1)) (va_up F (slt fi (u - 1)) (va_up (F (slt fi (u - 1))) (z (slt fi (u - 1))) ch)) r ∧ ∀ i, (i < 8 ∨ 48 ≤ i) → g1 i = g i) := by
  refine mOf (Qc := fun z9 => va_Qi (fun r1 g1 => r1 = bI true ∧ CSh k ad g1 fi u (va_up z (slt fi (u - 1)) (z (slt fi (u - 1)) + 1)) (va_up F (slt fi (u - 1)) (va_up (F (slt fi (u - 1))) (z (slt fi (u - 1))) ch)) r ∧ ∀ i, (i < 8 ∨ 48 ≤ i) → g1 i = g i) (mB k ad N) (mA ad N z9)) (cc := cX1_add) (maxL := 3) (ret := (some .boolean)) (by decide) rfl (Nat.le_of_ble_eq_true rfl) ?_
  intro p e s m below meth c hx hb hr hts hown hlocks hml hin hE hI ls hl
  have hl : lv_has ls 3 [(0, .ref (ad 6)), (1, .int (nI ch))] := hl
  obtain ⟨h6, h7, hr0, hrow⟩ := id hS0
  have hq_1l : slt fi (u - 1) < 20 := slt_lt _ _
  have hq_1 := hrow (slt fi (u - 1)) hq_1l
  have hq_1a := hq_1.1.1
  have hq_1b := hq_1.1.2
  have hq_1c := hq_1.2
  refine lv_aload_n hx hb dX1_add_0 rfl (lv_at hl 0 rfl) ?_
  refine lv_aload_n hx hb dX1_add_1 rfl (lv_at hl 0 rfl) ?_
  refine m_get (ci := 1) (C := RX1) (T := TX1) (N' := 3) hx hb hts (by decide +kernel) hown hE hI 6 (by omega) h6 rfl 2 (by decide) (hts (.fieldLink RX1 17 "TapePrinter$Sheet" "used" "I") (by decide +kernel)) rfl dX1_add_2 ?_
  refine lv_iconst (v := nI 1) hx hb dX1_add_5 (by decide) ?_
  refine m_isubN hx hb (by omega) dX1_add_6 ?_
  refine m_callVq (As := [.int (nI (u - 1))]) (rest := []) ⟨hx, hb, hml, hown, hts⟩ hE hI (c_X1_row_in k l ad N g _ fi u z F r (u - 1) (by omega) (by omega) (by omega) (by omega) hS0 (by omega)) (cwV 1 hts gX1_add_X1_row rfl rfl rfl (by decide +kernel) ⟨Nat.le_of_ble_eq_true rfl, Nat.le_of_ble_eq_true rfl⟩) (i := 6) (by omega) h6 rfl rfl hl.1 rfl (Nat.le_of_ble_eq_true rfl) dX1_add_7 ⟨Nat.le_of_ble_eq_true rfl, Nat.le_of_ble_eq_true rfl⟩ (m_detq (fun H locs hI => ?_))
  refine m_rf rfl ?_
  refine lv_astore_n (lv' := [(2, .ref (ad (8 + 2 * slt fi (u - 1)))), (0, .ref (ad 6)), (1, .int (nI ch))]) hx hb dX1_add_10 rfl hl (by decide) rfl (fun ls hl => ?_)
  refine lv_aload_n hx hb dX1_add_11 rfl (lv_at hl 0 rfl) ?_
  refine lv_ifnull hx hb dX1_add_12 ?_
  refine lv_aload_n hx hb dX1_add_15 rfl (lv_at hl 0 rfl) ?_
  refine lv_iload_n hx hb dX1_add_16 rfl (lv_at hl 2 rfl) ?_
  refine m_callVi (As := [.int (nI ch)]) (rest := []) ⟨hx, hb, hml, hown, hts⟩ hE hI (c_X0_add_in k l ad N g _ (8 + 2 * slt fi (u - 1)) 40 (z (slt fi (u - 1))) (fun ii => nI (F (slt fi (u - 1)) ii)) (nI ch) (by omega) (by omega) (by omega) ⟨hq_1a, hq_1b⟩ (by omega)) (cwV 1 hts gX1_add_X0_add rfl rfl rfl (by decide +kernel) ⟨Nat.le_of_ble_eq_true rfl, Nat.le_of_ble_eq_true rfl⟩) (i := (8 + 2 * slt fi (u - 1))) (by omega) hq_1a rfl rfl hl.1 rfl (Nat.le_of_ble_eq_true rfl) dX1_add_17 ⟨Nat.le_of_ble_eq_true rfl, Nat.le_of_ble_eq_true rfl⟩ (m_deti (fun H locs hI => ?_))
  obtain ⟨g1, hg1⟩ : ∃ zz, zz = va_up (va_up g (8 + 2 * slt fi (u - 1) + 1) (.inl (k.2.1.1, 40, .inl (upd (fun ii => nI (F (slt fi (u - 1)) ii)) (z (slt fi (u - 1))) (nI ch))))) (8 + 2 * slt fi (u - 1)) (.inr (0, [.ref (ad (8 + 2 * slt fi (u - 1) + 1)), .int (nI ((z (slt fi (u - 1))) + 1))])) := ⟨_, rfl⟩
  replace hI : mI k ad N g1 (mA ad N s.heap.size) s H locs := by rw [hg1]; exact hI
  have m_2 : g1 6 = .inr (1, [.ref (ad 7), .int (nI fi), .int (nI u)]) := by rw [hg1, va_up_ne _ _ (by omega), va_up_ne _ _ (by omega)]; exact h6
  have m_3 : g1 7 = .inl (k.2.1.2.1, 20, .inr (.inr (.inr (.inr r)))) := by rw [hg1, va_up_ne _ _ (by omega), va_up_ne _ _ (by omega)]; exact h7
  have m_4 : g1 (8 + 2 * slt fi (u - 1)) = .inr (0, [.ref (ad (8 + 2 * slt fi (u - 1) + 1)), .int (nI ((z (slt fi (u - 1))) + 1))]) := by rw [hg1, va_up_self]
  have m_5 : g1 (8 + 2 * slt fi (u - 1) + 1) = .inl (k.2.1.1, 40, .inl (upd (fun ii => nI (F (slt fi (u - 1)) ii)) (z (slt fi (u - 1))) (nI ch))) := by rw [hg1, va_up_ne _ _ (by omega), va_up_self]
  refine m_zeqB (tgt := 27) hx hb dX1_add_20 (by decide) (fun c => absurd c (by decide)) (fun c_20 => ?_)
  refine lv_iconst (v := nI 1) hx hb dX1_add_23 (by decide) ?_
  refine lv_goto (tgt := 28) hx hb dX1_add_24 (by decide) ?_
  have hrw : CRow k ad g1 (8 + 2 * slt fi (u - 1)) 40 (z (slt fi (u - 1)) + 1) (fun i => nI (va_up (F (slt fi (u - 1))) (z (slt fi (u - 1))) ch i)) := ⟨m_4, by rw [m_5, upd_nI]⟩
  refine m_top (y := bI true) (by decide) ?_
  exact m_zret (v := true) hx hb hr hlocks hI (⟨rfl, hS0.put (by omega) hrw (fun i h1 h2 => by rw [hg1, va_up_ne _ _ h1, va_up_ne _ _ h2]), fun i hi => by rw [hg1, va_up_ne _ _ (by omega), va_up_ne _ _ (by omega)]⟩) dX1_add_28
set_option maxHeartbeats 4000000 in
set_option maxRecDepth 100000 in
theorem c_X1_add_out (k : mC) (l : Launch) (ad : Nat → Nat) (N : Nat) (g : Nat → va_E) (sz : Nat) (fi u : Nat) (z : Nat → Nat) (F : Nat → Nat → Nat) (r : Nat → Option Nat) (ch : Nat) (hN : 48 ≤ N) (hfi : fi < 20) (hu : u ≤ 20) (hu0 : 0 < u) (hS0 : CSh k ad g fi u z F r) (hz : z (slt fi (u - 1)) = 40) : mCi k l yX1_add wsX1_add { frames := 1, cells := 0, slots := 0, locals := 22 } ad N g sz [.ref (ad 6), .int (nI ch)] (fun r1 g1 => r1 = bI false ∧ g1 = g) := by
  refine mOf (Qc := fun z9 => va_Qi (fun r1 g1 => r1 = bI false ∧ g1 = g) (mB k ad N) (mA ad N z9)) (cc := cX1_add) (maxL := 3) (ret := (some .boolean)) (by decide) rfl (Nat.le_of_ble_eq_true rfl) ?_
  intro p e s m below meth c hx hb hr hts hown hlocks hml hin hE hI ls hl
  have hl : lv_has ls 3 [(0, .ref (ad 6)), (1, .int (nI ch))] := hl
  obtain ⟨h6, h7, hr0, hrow⟩ := id hS0
  have hq_1l : slt fi (u - 1) < 20 := slt_lt _ _
  have hq_1 := hrow (slt fi (u - 1)) hq_1l
  have hq_1a := hq_1.1.1
  have hq_1b := hq_1.1.2
  have hq_1c := hq_1.2
  refine lv_aload_n hx hb dX1_add_0 rfl (lv_at hl 0 rfl) ?_
  refine lv_aload_n hx hb dX1_add_1 rfl (lv_at hl 0 rfl) ?_
  refine m_get (ci := 1) (C := RX1) (T := TX1) (N' := 3) hx hb hts (by decide +kernel) hown hE hI 6 (by omega) h6 rfl 2 (by decide) (hts (.fieldLink RX1 17 "TapePrinter$Sheet" "used" "I") (by decide +kernel)) rfl dX1_add_2 ?_
  refine lv_iconst (v := nI 1) hx hb dX1_add_5 (by decide) ?_
  refine m_isubN hx hb (by omega) dX1_add_6 ?_
  refine m_callVq (As := [.int (nI (u - 1))]) (rest := []) ⟨hx, hb, hml, hown, hts⟩ hE hI (c_X1_row_in k l ad N g _ fi u z F r (u - 1) (by omega) (by omega) (by omega) (by omega) hS0 (by omega)) (cwV 1 hts gX1_add_X1_row rfl rfl rfl (by decide +kernel) ⟨Nat.le_of_ble_eq_true rfl, Nat.le_of_ble_eq_true rfl⟩) (i := 6) (by omega) h6 rfl rfl hl.1 rfl (Nat.le_of_ble_eq_true rfl) dX1_add_7 ⟨Nat.le_of_ble_eq_true rfl, Nat.le_of_ble_eq_true rfl⟩ (m_detq (fun H locs hI => ?_))
  refine m_rf rfl ?_
  refine lv_astore_n (lv' := [(2, .ref (ad (8 + 2 * slt fi (u - 1)))), (0, .ref (ad 6)), (1, .int (nI ch))]) hx hb dX1_add_10 rfl hl (by decide) rfl (fun ls hl => ?_)
  refine lv_aload_n hx hb dX1_add_11 rfl (lv_at hl 0 rfl) ?_
  refine lv_ifnull hx hb dX1_add_12 ?_
  refine lv_aload_n hx hb dX1_add_15 rfl (lv_at hl 0 rfl) ?_
  refine lv_iload_n hx hb dX1_add_16 rfl (lv_at hl 2 rfl) ?_
  refine m_callVi (As := [.int (nI ch)]) (rest := []) ⟨hx, hb, hml, hown, hts⟩ hE hI (c_X0_add_out k l ad N g _ (8 + 2 * slt fi (u - 1)) 40 (z (slt fi (u - 1))) (fun ii => nI (F (slt fi (u - 1)) ii)) (nI ch) (by omega) (by omega) (by omega) ⟨hq_1a, hq_1b⟩ (by omega)) (cwV 1 hts gX1_add_X0_add rfl rfl rfl (by decide +kernel) ⟨Nat.le_of_ble_eq_true rfl, Nat.le_of_ble_eq_true rfl⟩) (i := (8 + 2 * slt fi (u - 1))) (by omega) hq_1a rfl rfl hl.1 rfl (Nat.le_of_ble_eq_true rfl) dX1_add_17 ⟨Nat.le_of_ble_eq_true rfl, Nat.le_of_ble_eq_true rfl⟩ (m_deti (fun H locs hI => ?_))
  refine m_zeqB (tgt := 27) hx hb dX1_add_20 (by decide) (fun c_20 => ?_) (fun c => absurd c (by decide))
  refine lv_iconst (v := nI 0) hx hb dX1_add_27 (by decide) ?_
  refine m_top (y := bI false) (by decide) ?_
  exact m_zret (v := false) hx hb hr hlocks hI (⟨rfl, rfl⟩) dX1_add_28
set_option maxHeartbeats 4000000 in
set_option maxRecDepth 100000 in
theorem c_X1_beginLine_lo (k : mC) (l : Launch) (ad : Nat → Nat) (N : Nat) (g : Nat → va_E) (sz : Nat) (fi u : Nat) (z : Nat → Nat) (F : Nat → Nat → Nat) (r : Nat → Option Nat)  (hN : 48 ≤ N) (hfi : fi < 20) (hu : u ≤ 20) (hu0 : 0 < u) (hS0 : CSh k ad g fi u z F r) (hlo : u < 20) : mCv k l yX1_beginLine wsX1_beginLine { frames := 1, cells := 0, slots := 0, locals := 22 } ad N g sz [.ref (ad 6)] (fun g1 => CSh k ad g1 fi (u + 1) (va_up z (slt fi u) 0) F r ∧ ∀ i, (i < 6 ∨ 48 ≤ i) → g1 i = g i) := by
  refine mOf (Qc := fun z9 => va_Qv (fun g1 => CSh k ad g1 fi (u + 1) (va_up z (slt fi u) 0) F r ∧ ∀ i, (i < 6 ∨ 48 ≤ i) → g1 i = g i) (mB k ad N) (mA ad N z9)) (cc := cX1_beginLine) (maxL := 2) (ret := none) (by decide) rfl (Nat.le_of_ble_eq_true rfl) ?_
  intro p e s m below meth c hx hb hr hts hown hlocks hml hin hE hI ls hl
  have hl : lv_has ls 2 [(0, .ref (ad 6))] := hl
  obtain ⟨h6, h7, hr0, hrow⟩ := id hS0
  have hq_1l : slt fi u < 20 := slt_lt _ _
  have hq_1 := hrow (slt fi u) hq_1l
  have hq_1a := hq_1.1.1
  have hq_1b := hq_1.1.2
  have hq_1c := hq_1.2
  refine lv_aload_n hx hb dX1_beginLine_0 rfl (lv_at hl 0 rfl) ?_
  refine m_get (ci := 1) (C := RX1) (T := TX1) (N' := 3) hx hb hts (by decide +kernel) hown hE hI 6 (by omega) h6 rfl 2 (by decide) (hts (.fieldLink RX1 17 "TapePrinter$Sheet" "used" "I") (by decide +kernel)) rfl dX1_beginLine_1 ?_
  refine lv_bipush (v := nI 20) hx hb dX1_beginLine_4 (by decide) ?_
  refine m_cgeN (tgt := 22) hx hb (by omega) (by omega) dX1_beginLine_6 (by decide) (fun c_6 => ?_) (fun c_6 => ?_)
  · exact absurd c_6 (by omega)
  · refine lv_aload_n hx hb dX1_beginLine_9 rfl (lv_at hl 0 rfl) ?_
    refine lv_dup hx hb dX1_beginLine_10 rfl ?_
    refine m_get (ci := 1) (C := RX1) (T := TX1) (N' := 3) hx hb hts (by decide +kernel) hown hE hI 6 (by omega) h6 rfl 2 (by decide) (hts (.fieldLink RX1 17 "TapePrinter$Sheet" "used" "I") (by decide +kernel)) rfl dX1_beginLine_11 ?_
    refine lv_iconst (v := nI 1) hx hb dX1_beginLine_14 (by decide) ?_
    refine m_iaddN hx hb dX1_beginLine_15 ?_
    refine m_put (ci := 1) (C := RX1) (T := TX1) (N' := 3) (ty := .int) hx hb hts (by decide +kernel) tyX1 tyX1_ok nmX1 hown hE hI 6 (by omega) h6 rfl 2 (by decide) (hts (.fieldLink RX1 17 "TapePrinter$Sheet" "used" "I") (by decide +kernel)) rfl (by decide +kernel) rfl rfl (Nat.le_of_ble_eq_true rfl) dX1_beginLine_16 (fun H locs hI => ?_)
    obtain ⟨g1, hg1⟩ : ∃ zz, zz = va_up g 6 (.inr (1, [.ref (ad 7), .int (nI fi), .int (nI (u + 1))])) := ⟨_, rfl⟩
    replace hI : mI k ad N g1 (mA ad N s.heap.size) s H locs := by rw [hg1]; exact hI
    have m_2 : g1 6 = .inr (1, [.ref (ad 7), .int (nI fi), .int (nI (u + 1))]) := by rw [hg1, va_up_self]
    have m_3 : g1 7 = .inl (k.2.1.2.1, 20, .inr (.inr (.inr (.inr r)))) := by rw [hg1, va_up_ne _ _ (by omega)]; exact h7
    have m_4 : g1 (8 + 2 * slt fi u) = .inr (0, [.ref (ad (8 + 2 * slt fi u + 1)), .int (nI (z (slt fi u)))]) := by rw [hg1, va_up_ne _ _ (by omega)]; exact hq_1a
    have m_5 : g1 (8 + 2 * slt fi u + 1) = .inl (k.2.1.1, 40, .inl (fun ii => nI (F (slt fi u) ii))) := by rw [hg1, va_up_ne _ _ (by omega)]; exact hq_1b
    have hS1 : CSh k ad g1 fi (u + 1) z F r := by rw [hg1]; exact hS0.six _ _
    refine lv_goto (tgt := 35) hx hb dX1_beginLine_19 (by decide) ?_
    refine lv_aload_n hx hb dX1_beginLine_35 rfl (lv_at hl 0 rfl) ?_
    refine lv_aload_n hx hb dX1_beginLine_36 rfl (lv_at hl 0 rfl) ?_
    refine m_get (ci := 1) (C := RX1) (T := TX1) (N' := 3) hx hb hts (by decide +kernel) hown hE hI 6 (by omega) m_2 rfl 2 (by decide) (hts (.fieldLink RX1 17 "TapePrinter$Sheet" "used" "I") (by decide +kernel)) rfl dX1_beginLine_37 ?_
    refine lv_iconst (v := nI 1) hx hb dX1_beginLine_40 (by decide) ?_
    refine m_isubN hx hb (by omega) dX1_beginLine_41 ?_
    refine m_top (show nI (u + 1 - 1) = nI u from rfl) ?_
    refine m_callVq (As := [.int (nI u)]) (rest := []) ⟨hx, hb, hml, hown, hts⟩ hE hI (c_X1_row_in k l ad N g1 _ fi (u + 1) z F r u (by omega) (by omega) (by omega) (by omega) hS1 (by omega)) (cwV 1 hts gX1_beginLine_X1_row rfl rfl rfl (by decide +kernel) ⟨Nat.le_of_ble_eq_true rfl, Nat.le_of_ble_eq_true rfl⟩) (i := 6) (by omega) m_2 rfl rfl hl.1 rfl (Nat.le_of_ble_eq_true rfl) dX1_beginLine_42 ⟨Nat.le_of_ble_eq_true rfl, Nat.le_of_ble_eq_true rfl⟩ (m_detq (fun H locs hI => ?_))
    refine m_rf rfl ?_
    refine lv_astore_n (lv' := [(1, .ref (ad (8 + 2 * slt fi u))), (0, .ref (ad 6))]) hx hb dX1_beginLine_45 rfl hl (by decide) rfl (fun ls hl => ?_)
    refine lv_aload_n hx hb dX1_beginLine_46 rfl (lv_at hl 0 rfl) ?_
    refine lv_ifnull hx hb dX1_beginLine_47 ?_
    refine lv_aload_n hx hb dX1_beginLine_50 rfl (lv_at hl 0 rfl) ?_
    refine m_callVv (As := []) (rest := []) ⟨hx, hb, hml, hown, hts⟩ hE hI (c_X0_clear k l ad N g1 _ (8 + 2 * slt fi u) 40 (z (slt fi u)) (fun ii => nI (F (slt fi u) ii))  (by omega) (by omega) (by omega) ⟨m_4, m_5⟩) (cwV 0 hts gX1_beginLine_X0_clear rfl rfl rfl (by decide +kernel) ⟨Nat.le_of_ble_eq_true rfl, Nat.le_of_ble_eq_true rfl⟩) (i := (8 + 2 * slt fi u)) (by omega) m_4 rfl rfl hl.1 rfl (Nat.le_of_ble_eq_true rfl) dX1_beginLine_51 ⟨Nat.le_of_ble_eq_true rfl, Nat.le_of_ble_eq_true rfl⟩ (m_detv (fun H locs hI => ?_))
    obtain ⟨g2, hg2⟩ : ∃ zz, zz = va_up g1 (8 + 2 * slt fi u) (.inr (0, [.ref (ad (8 + 2 * slt fi u + 1)), .int (nI 0)])) := ⟨_, rfl⟩
    replace hI : mI k ad N g2 (mA ad N s.heap.size) s H locs := by rw [hg2]; exact hI
    have m_6 : g2 6 = .inr (1, [.ref (ad 7), .int (nI fi), .int (nI (u + 1))]) := by rw [hg2, va_up_ne _ _ (by omega)]; exact m_2
    have m_7 : g2 7 = .inl (k.2.1.2.1, 20, .inr (.inr (.inr (.inr r)))) := by rw [hg2, va_up_ne _ _ (by omega)]; exact m_3
    have m_8 : g2 (8 + 2 * slt fi u) = .inr (0, [.ref (ad (8 + 2 * slt fi u + 1)), .int (nI 0)]) := by rw [hg2, va_up_self]
    have m_9 : g2 (8 + 2 * slt fi u + 1) = .inl (k.2.1.1, 40, .inl (fun ii => nI (F (slt fi u) ii))) := by rw [hg2, va_up_ne _ _ (by omega)]; exact m_5
    have hrw : CRow k ad g2 (8 + 2 * slt fi u) 40 0 (fun i => nI (F (slt fi u) i)) := ⟨m_8, m_9⟩
    have hS2 := hS1.put (by omega) hrw (fun i h1 h2 => by rw [hg2, va_up_ne _ _ h1])
    rw [va_up_id] at hS2
    exact m_vret hx hb hr hlocks hI (⟨hS2, fun i hi => by rw [hg2, va_up_ne _ _ (by omega), hg1, va_up_ne _ _ (by omega)]⟩) dX1_beginLine_54
set_option maxHeartbeats 4000000 in
set_option maxRecDepth 100000 in
theorem c_X1_beginLine_hi (k : mC) (l : Launch) (ad : Nat → Nat) (N : Nat) (g : Nat → va_E) (sz : Nat) (fi u : Nat) (z : Nat → Nat) (F : Nat → Nat → Nat) (r : Nat → Option Nat)  (hN : 48 ≤ N) (hfi : fi < 20) (hu : u ≤ 20) (hu0 : 0 < u) (hS0 : CSh k ad g fi u z F r) (hhi : u = 20) : mCv k l yX1_beginLine wsX1_beginLine { frames := 1, cells := 0, slots := 0, locals := 22 } ad N g sz [.ref (ad 6)] (fun g1 => CSh k ad g1 (slt fi 1) u (va_up z fi 0) F r ∧ ∀ i, (i < 6 ∨ 48 ≤ i) → g1 i = g i) := by
  refine mOf (Qc := fun z9 => va_Qv (fun g1 => CSh k ad g1 (slt fi 1) u (va_up z fi 0) F r ∧ ∀ i, (i < 6 ∨ 48 ≤ i) → g1 i = g i) (mB k ad N) (mA ad N z9)) (cc := cX1_beginLine) (maxL := 2) (ret := none) (by decide) rfl (Nat.le_of_ble_eq_true rfl) ?_
  intro p e s m below meth c hx hb hr hts hown hlocks hml hin hE hI ls hl
  have hl : lv_has ls 2 [(0, .ref (ad 6))] := hl
  obtain ⟨h6, h7, hr0, hrow⟩ := id hS0
  have hq_1l : fi < 20 := hfi
  have hq_1 := hrow (fi) hq_1l
  have hq_1a := hq_1.1.1
  have hq_1b := hq_1.1.2
  have hq_1c := hq_1.2
  refine lv_aload_n hx hb dX1_beginLine_0 rfl (lv_at hl 0 rfl) ?_
  refine m_get (ci := 1) (C := RX1) (T := TX1) (N' := 3) hx hb hts (by decide +kernel) hown hE hI 6 (by omega) h6 rfl 2 (by decide) (hts (.fieldLink RX1 17 "TapePrinter$Sheet" "used" "I") (by decide +kernel)) rfl dX1_beginLine_1 ?_
  refine lv_bipush (v := nI 20) hx hb dX1_beginLine_4 (by decide) ?_
  refine m_cgeN (tgt := 22) hx hb (by omega) (by omega) dX1_beginLine_6 (by decide) (fun c_6 => ?_) (fun c_6 => ?_)
  · refine lv_aload_n hx hb dX1_beginLine_22 rfl (lv_at hl 0 rfl) ?_
    refine lv_aload_n hx hb dX1_beginLine_23 rfl (lv_at hl 0 rfl) ?_
    refine m_get (ci := 1) (C := RX1) (T := TX1) (N' := 3) hx hb hts (by decide +kernel) hown hE hI 6 (by omega) h6 rfl 1 (by decide) (hts (.fieldLink RX1 24 "TapePrinter$Sheet" "first" "I") (by decide +kernel)) rfl dX1_beginLine_24 ?_
    refine lv_iconst (v := nI 1) hx hb dX1_beginLine_27 (by decide) ?_
    refine m_iaddN hx hb dX1_beginLine_28 ?_
    refine lv_bipush (v := nI 20) hx hb dX1_beginLine_29 (by decide) ?_
    refine m_iremN hx hb (by omega) (by omega) (by omega) dX1_beginLine_31 ?_
    refine m_top (show nI ((fi + 1) % 20) = nI (slt fi 1) from rfl) ?_
    refine m_put (ci := 1) (C := RX1) (T := TX1) (N' := 3) (ty := .int) hx hb hts (by decide +kernel) tyX1 tyX1_ok nmX1 hown hE hI 6 (by omega) h6 rfl 1 (by decide) (hts (.fieldLink RX1 24 "TapePrinter$Sheet" "first" "I") (by decide +kernel)) rfl (by decide +kernel) rfl rfl (Nat.le_of_ble_eq_true rfl) dX1_beginLine_32 (fun H locs hI => ?_)
    obtain ⟨g1, hg1⟩ : ∃ zz, zz = va_up g 6 (.inr (1, [.ref (ad 7), .int (nI (slt fi 1)), .int (nI u)])) := ⟨_, rfl⟩
    replace hI : mI k ad N g1 (mA ad N s.heap.size) s H locs := by rw [hg1]; exact hI
    have m_2 : g1 6 = .inr (1, [.ref (ad 7), .int (nI (slt fi 1)), .int (nI u)]) := by rw [hg1, va_up_self]
    have m_3 : g1 7 = .inl (k.2.1.2.1, 20, .inr (.inr (.inr (.inr r)))) := by rw [hg1, va_up_ne _ _ (by omega)]; exact h7
    have m_4 : g1 (8 + 2 * fi) = .inr (0, [.ref (ad (8 + 2 * fi + 1)), .int (nI (z fi))]) := by rw [hg1, va_up_ne _ _ (by omega)]; exact hq_1a
    have m_5 : g1 (8 + 2 * fi + 1) = .inl (k.2.1.1, 40, .inl (fun ii => nI (F fi ii))) := by rw [hg1, va_up_ne _ _ (by omega)]; exact hq_1b
    have hS1 : CSh k ad g1 (slt fi 1) u z F r := by rw [hg1]; exact hS0.six _ _
    have hsl := slt_lt fi 1
    refine lv_aload_n hx hb dX1_beginLine_35 rfl (lv_at hl 0 rfl) ?_
    refine lv_aload_n hx hb dX1_beginLine_36 rfl (lv_at hl 0 rfl) ?_
    refine m_get (ci := 1) (C := RX1) (T := TX1) (N' := 3) hx hb hts (by decide +kernel) hown hE hI 6 (by omega) m_2 rfl 2 (by decide) (hts (.fieldLink RX1 17 "TapePrinter$Sheet" "used" "I") (by decide +kernel)) rfl dX1_beginLine_37 ?_
    refine lv_iconst (v := nI 1) hx hb dX1_beginLine_40 (by decide) ?_
    refine m_isubN hx hb (by omega) dX1_beginLine_41 ?_
    refine m_top (show nI (u - 1) = nI 19 from by rw [hhi]) ?_
    refine m_callVq (As := [.int (nI 19)]) (rest := []) ⟨hx, hb, hml, hown, hts⟩ hE hI (c_X1_row_in k l ad N g1 _ (slt fi 1) u z F r 19 (by omega) (by omega) (by omega) (by omega) hS1 (by omega)) (cwV 1 hts gX1_beginLine_X1_row rfl rfl rfl (by decide +kernel) ⟨Nat.le_of_ble_eq_true rfl, Nat.le_of_ble_eq_true rfl⟩) (i := 6) (by omega) m_2 rfl rfl hl.1 rfl (Nat.le_of_ble_eq_true rfl) dX1_beginLine_42 ⟨Nat.le_of_ble_eq_true rfl, Nat.le_of_ble_eq_true rfl⟩ (m_detq (fun H locs hI => ?_))
    refine m_rf rfl ?_
    rw [slt_back hfi]
    refine lv_astore_n (lv' := [(1, .ref (ad (8 + 2 * fi))), (0, .ref (ad 6))]) hx hb dX1_beginLine_45 rfl hl (by decide) rfl (fun ls hl => ?_)
    refine lv_aload_n hx hb dX1_beginLine_46 rfl (lv_at hl 0 rfl) ?_
    refine lv_ifnull hx hb dX1_beginLine_47 ?_
    refine lv_aload_n hx hb dX1_beginLine_50 rfl (lv_at hl 0 rfl) ?_
    refine m_callVv (As := []) (rest := []) ⟨hx, hb, hml, hown, hts⟩ hE hI (c_X0_clear k l ad N g1 _ (8 + 2 * fi) 40 (z fi) (fun ii => nI (F fi ii))  (by omega) (by omega) (by omega) ⟨m_4, m_5⟩) (cwV 0 hts gX1_beginLine_X0_clear rfl rfl rfl (by decide +kernel) ⟨Nat.le_of_ble_eq_true rfl, Nat.le_of_ble_eq_true rfl⟩) (i := (8 + 2 * fi)) (by omega) m_4 rfl rfl hl.1 rfl (Nat.le_of_ble_eq_true rfl) dX1_beginLine_51 ⟨Nat.le_of_ble_eq_true rfl, Nat.le_of_ble_eq_true rfl⟩ (m_detv (fun H locs hI => ?_))
    obtain ⟨g2, hg2⟩ : ∃ zz, zz = va_up g1 (8 + 2 * fi) (.inr (0, [.ref (ad (8 + 2 * fi + 1)), .int (nI 0)])) := ⟨_, rfl⟩
    replace hI : mI k ad N g2 (mA ad N s.heap.size) s H locs := by rw [hg2]; exact hI
    have m_6 : g2 6 = .inr (1, [.ref (ad 7), .int (nI (slt fi 1)), .int (nI u)]) := by rw [hg2, va_up_ne _ _ (by omega)]; exact m_2
    have m_7 : g2 7 = .inl (k.2.1.2.1, 20, .inr (.inr (.inr (.inr r)))) := by rw [hg2, va_up_ne _ _ (by omega)]; exact m_3
    have m_8 : g2 (8 + 2 * fi) = .inr (0, [.ref (ad (8 + 2 * fi + 1)), .int (nI 0)]) := by rw [hg2, va_up_self]
    have m_9 : g2 (8 + 2 * fi + 1) = .inl (k.2.1.1, 40, .inl (fun ii => nI (F fi ii))) := by rw [hg2, va_up_ne _ _ (by omega)]; exact m_5
    have hrw : CRow k ad g2 (8 + 2 * fi) 40 0 (fun i => nI (F fi i)) := ⟨m_8, m_9⟩
    have hS2 := hS1.put (by omega) hrw (fun i h1 h2 => by rw [hg2, va_up_ne _ _ h1])
    rw [va_up_id] at hS2
    exact m_vret hx hb hr hlocks hI (⟨hS2, fun i hi => by rw [hg2, va_up_ne _ _ (by omega), hg1, va_up_ne _ _ (by omega)]⟩) dX1_beginLine_54
  · exact absurd c_6 (by omega)
set_option maxHeartbeats 4000000 in
set_option maxRecDepth 100000 in
theorem c_X1_characters (k : mC) (l : Launch) (ad : Nat → Nat) (N : Nat) (g : Nat → va_E) (sz : Nat) (fi u : Nat) (z : Nat → Nat) (F : Nat → Nat → Nat) (r : Nat → Option Nat)  (hN : 48 ≤ N) (hfi : fi < 20) (hu : u ≤ 20) (hu0 : 0 < u) (hS0 : CSh k ad g fi u z F r) : mCi k l yX1_characters wsX1_characters { frames := 1, cells := 0, slots := 0, locals := 22 } ad N g sz [.ref (ad 6)] (fun r1 g1 => r1 = nI (sumz z fi u) ∧ g1 = g) := by
  refine mOf (Qc := fun z9 => va_Qi (fun r1 g1 => r1 = nI (sumz z fi u) ∧ g1 = g) (mB k ad N) (mA ad N z9)) (cc := cX1_characters) (maxL := 4) (ret := (some .int)) (by decide) rfl (Nat.le_of_ble_eq_true rfl) ?_
  intro p e s m below meth c hx hb hr hts hown hlocks hml hin hE hI ls hl
  have hl : lv_has ls 4 [(0, .ref (ad 6))] := hl
  obtain ⟨h6, h7, hr0, hrow⟩ := id hS0
  refine lv_iconst (v := nI 0) hx hb dX1_characters_0 (by decide) ?_
  refine lv_istore_n (lv' := [(1, .int (nI 0)), (0, .ref (ad 6))]) hx hb dX1_characters_1 rfl hl (by decide) rfl (fun ls hl => ?_)
  refine lv_iconst (v := nI 0) hx hb dX1_characters_2 (by decide) ?_
  refine lv_istore_n (lv' := [(2, .int (nI 0)), (1, .int (nI 0)), (0, .ref (ad 6))]) hx hb dX1_characters_3 rfl hl (by decide) rfl (fun ls hl => ?_)
  refine m_loop (σ := Nat) (fun i => i ≤ u) (fun i => u - i) (fun i => g) (fun i => [(0, .ref (ad 6)), (1, .int (nI (sumz z fi i))), (2, .int (nI i))]) (nL := 4) 0 (Nat.zero_le _) hI (lv_sub hl [2, 1, 0] rfl) ?_
  rintro i hiu ih4 H locs ls hI hl
  have hI : mI k ad N g (mA ad N s.heap.size) s H locs := hI
  have hl : lv_has ls 4 [(0, .ref (ad 6)), (1, .int (nI (sumz z fi i))), (2, .int (nI i))] := hl
  have hsz := sumz_le (z := z) (fun j hj => (hrow j hj).2) fi i
  refine lv_iload_n hx hb dX1_characters_4 rfl (lv_at hl 2 rfl) ?_
  refine lv_aload_n hx hb dX1_characters_5 rfl (lv_at hl 0 rfl) ?_
  refine m_get (ci := 1) (C := RX1) (T := TX1) (N' := 3) hx hb hts (by decide +kernel) hown hE hI 6 (by omega) h6 rfl 2 (by decide) (hts (.fieldLink RX1 17 "TapePrinter$Sheet" "used" "I") (by decide +kernel)) rfl dX1_characters_6 ?_
  refine m_cgeN (tgt := 35) hx hb (by omega) (by omega) dX1_characters_9 (by decide) (fun c_9 => ?_) (fun c_9 => ?_)
  · refine lv_iload_n hx hb dX1_characters_35 rfl (lv_at hl 1 rfl) ?_
    exact m_iret hx hb hr hlocks hI (⟨by rw [show i = u by omega], rfl⟩) dX1_characters_36
  · have hq_1l : slt fi i < 20 := slt_lt _ _
    have hq_1 := hrow (slt fi i) hq_1l
    have hq_1a := hq_1.1.1
    have hq_1b := hq_1.1.2
    have hq_1c := hq_1.2
    refine lv_aload_n hx hb dX1_characters_12 rfl (lv_at hl 0 rfl) ?_
    refine lv_iload_n hx hb dX1_characters_13 rfl (lv_at hl 2 rfl) ?_
    refine m_callVq (As := [.int (nI i)]) (rest := []) ⟨hx, hb, hml, hown, hts⟩ hE hI (c_X1_row_in k l ad N g _ fi u z F r i (by omega) (by omega) (by omega) (by omega) hS0 (by omega)) (cwV 1 hts gX1_characters_X1_row rfl rfl rfl (by decide +kernel) ⟨Nat.le_of_ble_eq_true rfl, Nat.le_of_ble_eq_true rfl⟩) (i := 6) (by omega) h6 rfl rfl hl.1 rfl (Nat.le_of_ble_eq_true rfl) dX1_characters_14 ⟨Nat.le_of_ble_eq_true rfl, Nat.le_of_ble_eq_true rfl⟩ (m_detq (fun H locs hI => ?_))
    refine m_rf rfl ?_
    refine lv_astore_n (lv' := [(3, .ref (ad (8 + 2 * slt fi i))), (0, .ref (ad 6)), (1, .int (nI (sumz z fi i))), (2, .int (nI i))]) hx hb dX1_characters_17 rfl hl (by decide) rfl (fun ls hl => ?_)
    refine lv_aload_n hx hb dX1_characters_18 rfl (lv_at hl 0 rfl) ?_
    refine lv_ifnull hx hb dX1_characters_19 ?_
    refine lv_iload_n hx hb dX1_characters_22 rfl (lv_at hl 2 rfl) ?_
    refine lv_aload_n hx hb dX1_characters_23 rfl (lv_at hl 0 rfl) ?_
    refine m_callVi (As := []) (rest := [.int (nI (sumz z fi i))]) ⟨hx, hb, hml, hown, hts⟩ hE hI (c_X0_size k l ad N g _ (8 + 2 * slt fi i) 40 (z (slt fi i)) (fun ii => nI (F (slt fi i) ii))  (by omega) (by omega) (by omega) ⟨hq_1a, hq_1b⟩) (cwV 0 hts gX1_characters_X0_size rfl rfl rfl (by decide +kernel) ⟨Nat.le_of_ble_eq_true rfl, Nat.le_of_ble_eq_true rfl⟩) (i := (8 + 2 * slt fi i)) (by omega) hq_1a rfl rfl hl.1 rfl (Nat.le_of_ble_eq_true rfl) dX1_characters_24 ⟨Nat.le_of_ble_eq_true rfl, Nat.le_of_ble_eq_true rfl⟩ (m_deti (fun H locs hI => ?_))
    refine m_iaddN hx hb dX1_characters_27 ?_
    refine lv_istore_n (lv' := [(1, .int (nI ((sumz z fi i) + (z (slt fi i))))), (3, .ref (ad (8 + 2 * slt fi i))), (0, .ref (ad 6)), (2, .int (nI i))]) hx hb dX1_characters_28 rfl hl (by decide) rfl (fun ls hl => ?_)
    refine lv_iinc (v := nI (i + 1)) (lv' := [(2, .int (nI (i + 1))), (1, .int (nI ((sumz z fi i) + (z (slt fi i))))), (3, .ref (ad (8 + 2 * slt fi i))), (0, .ref (ad 6))]) hx hb dX1_characters_29 hl (k := 3) rfl (nI_add i 1) (by decide) rfl (fun ls hl => ?_)
    refine lv_goto (tgt := 4) hx hb dX1_characters_32 (by decide) ?_
    exact ih4 (i + 1) (show i + 1 ≤ u by omega) (show u - (i + 1) < u - i by omega) _ _ _ hI (lv_sub hl [3, 1, 0] rfl)
set_option maxHeartbeats 4000000 in
set_option maxRecDepth 100000 in
theorem c_X2_play (k : mC) (l : Launch) (ad : Nat → Nat) (N : Nat) (g : Nat → va_E) (sz : Nat) (play : Nat) (lat : Nat → Int32) (gar : Nat → Nat)  (hN : 6 ≤ N) (hW0 : CWi k ad g play lat gar) : mCi k l yX2_play wsX2_play { frames := 0, cells := 0, slots := 0, locals := 0 } ad N g sz [.ref (ad 1)] (fun r g1 => r = nI play ∧ g1 = g) := by
  refine mOf (Qc := fun z9 => va_Qi (fun r g1 => r = nI play ∧ g1 = g) (mB k ad N) (mA ad N z9)) (cc := cX2_play) (maxL := 1) (ret := (some .int)) (by decide) rfl (Nat.le_of_ble_eq_true rfl) ?_
  intro p e s m below meth c hx hb hr hts hown hlocks hml hin hE hI ls hl
  have hl : lv_has ls 1 [(0, .ref (ad 1))] := hl
  obtain ⟨h1, ⟨h2, h3⟩, ⟨h4, h5⟩⟩ := id hW0
  refine lv_aload_n hx hb dX2_play_0 rfl (lv_at hl 0 rfl) ?_
  refine m_get (ci := 2) (C := RX2) (T := TX2) (N' := 3) hx hb hts (by decide +kernel) hown hE hI 1 (by omega) h1 rfl 2 (by decide) (hts (.fieldLink RX2 27 "TapePrinter$Wire" "play" "I") (by decide +kernel)) rfl dX2_play_1 ?_
  exact m_iret hx hb hr hlocks hI (⟨rfl, rfl⟩) dX2_play_4
set_option maxHeartbeats 4000000 in
set_option maxRecDepth 100000 in
theorem c_X2_changePlay (k : mC) (l : Launch) (ad : Nat → Nat) (N : Nat) (g : Nat → va_E) (sz : Nat) (play : Nat) (lat : Nat → Int32) (gar : Nat → Nat) (v : Nat) (hN : 6 ≤ N) (hW0 : CWi k ad g play lat gar) : mCv k l yX2_changePlay wsX2_changePlay { frames := 0, cells := 0, slots := 0, locals := 0 } ad N g sz [.ref (ad 1), .int (nI v)] (fun g1 => g1 = va_up g 1 (.inr (2, [.ref (ad 2), .ref (ad 4), .int (nI v)]))) := by
  refine mOf (Qc := fun z9 => va_Qv (fun g1 => g1 = va_up g 1 (.inr (2, [.ref (ad 2), .ref (ad 4), .int (nI v)]))) (mB k ad N) (mA ad N z9)) (cc := cX2_changePlay) (maxL := 2) (ret := none) (by decide) rfl (Nat.le_of_ble_eq_true rfl) ?_
  intro p e s m below meth c hx hb hr hts hown hlocks hml hin hE hI ls hl
  have hl : lv_has ls 2 [(0, .ref (ad 1)), (1, .int (nI v))] := hl
  obtain ⟨h1, ⟨h2, h3⟩, ⟨h4, h5⟩⟩ := id hW0
  refine lv_aload_n hx hb dX2_changePlay_0 rfl (lv_at hl 0 rfl) ?_
  refine lv_iload_n hx hb dX2_changePlay_1 rfl (lv_at hl 1 rfl) ?_
  refine m_put (ci := 2) (C := RX2) (T := TX2) (N' := 3) (ty := .int) hx hb hts (by decide +kernel) tyX2 tyX2_ok nmX2 hown hE hI 1 (by omega) h1 rfl 2 (by decide) (hts (.fieldLink RX2 27 "TapePrinter$Wire" "play" "I") (by decide +kernel)) rfl (by decide +kernel) rfl rfl (Nat.le_of_ble_eq_true rfl) dX2_changePlay_2 (fun H locs hI => ?_)
  obtain ⟨g1, hg1⟩ : ∃ zz, zz = va_up g 1 (.inr (2, [.ref (ad 2), .ref (ad 4), .int (nI v)])) := ⟨_, rfl⟩
  replace hI : mI k ad N g1 (mA ad N s.heap.size) s H locs := by rw [hg1]; exact hI
  have m_1 : g1 1 = .inr (2, [.ref (ad 2), .ref (ad 4), .int (nI v)]) := by rw [hg1, va_up_self]
  have m_2 : g1 2 = .inr (0, [.ref (ad 3), .int (nI 16)]) := by rw [hg1, va_up_ne _ _ (by omega)]; exact h2
  have m_3 : g1 3 = .inl (k.2.1.1, 16, .inl lat) := by rw [hg1, va_up_ne _ _ (by omega)]; exact h3
  have m_4 : g1 4 = .inr (0, [.ref (ad 5), .int (nI 16)]) := by rw [hg1, va_up_ne _ _ (by omega)]; exact h4
  have m_5 : g1 5 = .inl (k.2.1.1, 16, .inl (fun j => nI (gar j))) := by rw [hg1, va_up_ne _ _ (by omega)]; exact h5
  exact m_vret hx hb hr hlocks hI (hg1) dX2_changePlay_5
set_option maxHeartbeats 4000000 in
set_option maxRecDepth 100000 in
theorem c_X2_lateAt (k : mC) (l : Launch) (ad : Nat → Nat) (N : Nat) (g : Nat → va_E) (sz : Nat) (play : Nat) (lat : Nat → Int32) (gar : Nat → Nat) (j : Nat) (hN : 6 ≤ N) (hW0 : CWi k ad g play lat gar) (hj : j < 16) : mCi k l yX2_lateAt wsX2_lateAt { frames := 2, cells := 0, slots := 0, locals := 42 } ad N g sz [.ref (ad 1), .int (nI j)] (fun r g1 => r = lat j ∧ g1 = g) := by
  refine mOf (Qc := fun z9 => va_Qi (fun r g1 => r = lat j ∧ g1 = g) (mB k ad N) (mA ad N z9)) (cc := cX2_lateAt) (maxL := 2) (ret := (some .int)) (by decide) rfl (Nat.le_of_ble_eq_true rfl) ?_
  intro p e s m below meth c hx hb hr hts hown hlocks hml hin hE hI ls hl
  have hl : lv_has ls 2 [(0, .ref (ad 1)), (1, .int (nI j))] := hl
  obtain ⟨h1, ⟨h2, h3⟩, ⟨h4, h5⟩⟩ := id hW0
  refine lv_aload_n hx hb dX2_lateAt_0 rfl (lv_at hl 0 rfl) ?_
  refine m_get (ci := 2) (C := RX2) (T := TX2) (N' := 3) hx hb hts (by decide +kernel) hown hE hI 1 (by omega) h1 rfl 0 (by decide) (hts (.fieldLink RX2 14 "TapePrinter$Wire" "late" "LTapePrinter$Row;") (by decide +kernel)) rfl dX2_lateAt_1 ?_
  refine lv_iload_n hx hb dX2_lateAt_4 rfl (lv_at hl 1 rfl) ?_
  refine m_callVi (As := [.int (nI j)]) (rest := []) ⟨hx, hb, hml, hown, hts⟩ hE hI (c_X0_at k l ad N g _ 2 16 16 lat j (by omega) (by omega) (by omega) ⟨h2, h3⟩ (by omega)) (cwV 1 hts gX2_lateAt_X0_at rfl rfl rfl (by decide +kernel) ⟨Nat.le_of_ble_eq_true rfl, Nat.le_of_ble_eq_true rfl⟩) (i := 2) (by omega) h2 rfl rfl hl.1 rfl (Nat.le_of_ble_eq_true rfl) dX2_lateAt_5 ⟨Nat.le_of_ble_eq_true rfl, Nat.le_of_ble_eq_true rfl⟩ (m_deti (fun H locs hI => ?_))
  exact m_iret hx hb hr hlocks hI (⟨rfl, rfl⟩) dX2_lateAt_8
set_option maxHeartbeats 4000000 in
set_option maxRecDepth 100000 in
theorem c_X2_change (k : mC) (l : Launch) (ad : Nat → Nat) (N : Nat) (g : Nat → va_E) (sz : Nat) (play : Nat) (lat : Nat → Int32) (gar : Nat → Nat) (j : Nat) (v : Int32) (q : Nat) (hN : 6 ≤ N) (hW0 : CWi k ad g play lat gar) (hj : j < 16) : mCv k l yX2_change wsX2_change { frames := 2, cells := 0, slots := 0, locals := 43 } ad N g sz [.ref (ad 1), .int (nI j), .int v, .int (nI q)] (fun g1 => g1 = va_up (va_up g 3 (.inl (k.2.1.1, 16, .inl (upd lat j v)))) 5 (.inl (k.2.1.1, 16, .inl (upd (fun j => nI (gar j)) j (nI q))))) := by
  refine mOf (Qc := fun z9 => va_Qv (fun g1 => g1 = va_up (va_up g 3 (.inl (k.2.1.1, 16, .inl (upd lat j v)))) 5 (.inl (k.2.1.1, 16, .inl (upd (fun j => nI (gar j)) j (nI q))))) (mB k ad N) (mA ad N z9)) (cc := cX2_change) (maxL := 4) (ret := none) (by decide) rfl (Nat.le_of_ble_eq_true rfl) ?_
  intro p e s m below meth c hx hb hr hts hown hlocks hml hin hE hI ls hl
  have hl : lv_has ls 4 [(0, .ref (ad 1)), (1, .int (nI j)), (2, .int v), (3, .int (nI q))] := hl
  obtain ⟨h1, ⟨h2, h3⟩, ⟨h4, h5⟩⟩ := id hW0
  refine lv_aload_n hx hb dX2_change_0 rfl (lv_at hl 0 rfl) ?_
  refine m_get (ci := 2) (C := RX2) (T := TX2) (N' := 3) hx hb hts (by decide +kernel) hown hE hI 1 (by omega) h1 rfl 0 (by decide) (hts (.fieldLink RX2 14 "TapePrinter$Wire" "late" "LTapePrinter$Row;") (by decide +kernel)) rfl dX2_change_1 ?_
  refine lv_iload_n hx hb dX2_change_4 rfl (lv_at hl 1 rfl) ?_
  refine lv_iload_n hx hb dX2_change_5 rfl (lv_at hl 2 rfl) ?_
  refine m_callVv (As := [.int (nI j), .int v]) (rest := []) ⟨hx, hb, hml, hown, hts⟩ hE hI (c_X0_change k l ad N g _ 2 16 16 lat j v (by omega) (by omega) (by omega) ⟨h2, h3⟩ (by omega)) (cwV 2 hts gX2_change_X0_change rfl rfl rfl (by decide +kernel) ⟨Nat.le_of_ble_eq_true rfl, Nat.le_of_ble_eq_true rfl⟩) (i := 2) (by omega) h2 rfl rfl hl.1 rfl (Nat.le_of_ble_eq_true rfl) dX2_change_6 ⟨Nat.le_of_ble_eq_true rfl, Nat.le_of_ble_eq_true rfl⟩ (m_detv (fun H locs hI => ?_))
  obtain ⟨g1, hg1⟩ : ∃ zz, zz = va_up g 3 (.inl (k.2.1.1, 16, .inl (upd lat j v))) := ⟨_, rfl⟩
  replace hI : mI k ad N g1 (mA ad N s.heap.size) s H locs := by rw [hg1]; exact hI
  have m_1 : g1 1 = .inr (2, [.ref (ad 2), .ref (ad 4), .int (nI play)]) := by rw [hg1, va_up_ne _ _ (by omega)]; exact h1
  have m_2 : g1 2 = .inr (0, [.ref (ad 3), .int (nI 16)]) := by rw [hg1, va_up_ne _ _ (by omega)]; exact h2
  have m_3 : g1 3 = .inl (k.2.1.1, 16, .inl (upd lat j v)) := by rw [hg1, va_up_self]
  have m_4 : g1 4 = .inr (0, [.ref (ad 5), .int (nI 16)]) := by rw [hg1, va_up_ne _ _ (by omega)]; exact h4
  have m_5 : g1 5 = .inl (k.2.1.1, 16, .inl (fun j => nI (gar j))) := by rw [hg1, va_up_ne _ _ (by omega)]; exact h5
  refine lv_aload_n hx hb dX2_change_9 rfl (lv_at hl 0 rfl) ?_
  refine m_get (ci := 2) (C := RX2) (T := TX2) (N' := 3) hx hb hts (by decide +kernel) hown hE hI 1 (by omega) m_1 rfl 1 (by decide) (hts (.fieldLink RX2 20 "TapePrinter$Wire" "garbled" "LTapePrinter$Row;") (by decide +kernel)) rfl dX2_change_10 ?_
  refine lv_iload_n hx hb dX2_change_13 rfl (lv_at hl 1 rfl) ?_
  refine lv_iload_n hx hb dX2_change_14 rfl (lv_at hl 3 rfl) ?_
  refine m_callVv (As := [.int (nI j), .int (nI q)]) (rest := []) ⟨hx, hb, hml, hown, hts⟩ hE hI (c_X0_change k l ad N g1 _ 4 16 16 (fun j => nI (gar j)) j (nI q) (by omega) (by omega) (by omega) ⟨m_4, m_5⟩ (by omega)) (cwV 2 hts gX2_change_X0_change rfl rfl rfl (by decide +kernel) ⟨Nat.le_of_ble_eq_true rfl, Nat.le_of_ble_eq_true rfl⟩) (i := 4) (by omega) m_4 rfl rfl hl.1 rfl (Nat.le_of_ble_eq_true rfl) dX2_change_15 ⟨Nat.le_of_ble_eq_true rfl, Nat.le_of_ble_eq_true rfl⟩ (m_detv (fun H locs hI => ?_))
  obtain ⟨g2, hg2⟩ : ∃ zz, zz = va_up g1 5 (.inl (k.2.1.1, 16, .inl (upd (fun j => nI (gar j)) j (nI q)))) := ⟨_, rfl⟩
  replace hI : mI k ad N g2 (mA ad N s.heap.size) s H locs := by rw [hg2]; exact hI
  have m_6 : g2 1 = .inr (2, [.ref (ad 2), .ref (ad 4), .int (nI play)]) := by rw [hg2, va_up_ne _ _ (by omega)]; exact m_1
  have m_7 : g2 2 = .inr (0, [.ref (ad 3), .int (nI 16)]) := by rw [hg2, va_up_ne _ _ (by omega)]; exact m_2
  have m_8 : g2 3 = .inl (k.2.1.1, 16, .inl (upd lat j v)) := by rw [hg2, va_up_ne _ _ (by omega)]; exact m_3
  have m_9 : g2 4 = .inr (0, [.ref (ad 5), .int (nI 16)]) := by rw [hg2, va_up_ne _ _ (by omega)]; exact m_4
  have m_10 : g2 5 = .inl (k.2.1.1, 16, .inl (upd (fun j => nI (gar j)) j (nI q))) := by rw [hg2, va_up_self]
  exact m_vret hx hb hr hlocks hI (by rw [hg2, hg1]) dX2_change_18
set_option maxHeartbeats 4000000 in
set_option maxRecDepth 100000 in
theorem c_X2_readAs (k : mC) (l : Launch) (ad : Nat → Nat) (N : Nat) (g : Nat → va_E) (sz : Nat) (play : Nat) (lat : Nat → Int32) (gar : Nat → Nat) (co a : Nat) (hN : 6 ≤ N) (hW0 : CWi k ad g play lat gar) (hc : co < 32) (ha : a < 2147483648) (hgar : ∀ j, j < 16 → gar j < 32) : mCi k l yX2_readAs wsX2_readAs { frames := 2, cells := 0, slots := 0, locals := 42 } ad N g sz [.ref (ad 1), .int (nI co), .int (nI a)] (fun r g1 => r = nI (rdF play (lat (a % 16)) (gar (a % 16)) co) ∧ g1 = g) := by
  refine mOf (Qc := fun z9 => va_Qi (fun r g1 => r = nI (rdF play (lat (a % 16)) (gar (a % 16)) co) ∧ g1 = g) (mB k ad N) (mA ad N z9)) (cc := cX2_readAs) (maxL := 6) (ret := (some .int)) (by decide) rfl (Nat.le_of_ble_eq_true rfl) ?_
  intro p e s m below meth c hx hb hr hts hown hlocks hml hin hE hI ls hl
  have hl : lv_has ls 6 [(0, .ref (ad 1)), (1, .int (nI co)), (2, .int (nI a))] := hl
  obtain ⟨h1, ⟨h2, h3⟩, ⟨h4, h5⟩⟩ := id hW0
  refine lv_iload_n hx hb dX2_readAs_0 rfl (lv_at hl 2 rfl) ?_
  refine lv_bipush (v := nI 16) hx hb dX2_readAs_1 (by decide) ?_
  refine m_iremN hx hb (by omega) (by omega) (by omega) dX2_readAs_3 ?_
  have ha16 : a % 16 < 16 := Nat.mod_lt _ (by omega)
  refine lv_istore_n (lv' := [(3, .int (nI (a % 16))), (0, .ref (ad 1)), (1, .int (nI co)), (2, .int (nI a))]) hx hb dX2_readAs_4 rfl hl (by decide) rfl (fun ls hl => ?_)
  refine lv_iload_n hx hb dX2_readAs_5 rfl (lv_at hl 2 rfl) ?_
  refine lv_aload_n hx hb dX2_readAs_6 rfl (lv_at hl 1 rfl) ?_
  refine m_get (ci := 2) (C := RX2) (T := TX2) (N' := 3) hx hb hts (by decide +kernel) hown hE hI 1 (by omega) h1 rfl 1 (by decide) (hts (.fieldLink RX2 20 "TapePrinter$Wire" "garbled" "LTapePrinter$Row;") (by decide +kernel)) rfl dX2_readAs_7 ?_
  refine lv_iload_n hx hb dX2_readAs_10 rfl (lv_at hl 0 rfl) ?_
  refine m_callVi (As := [.int (nI (a % 16))]) (rest := [.int (nI co)]) ⟨hx, hb, hml, hown, hts⟩ hE hI (c_X0_at k l ad N g _ 4 16 16 (fun j => nI (gar j)) (a % 16) (by omega) (by omega) (by omega) ⟨h4, h5⟩ (by omega)) (cwV 1 hts gX2_readAs_X0_at rfl rfl rfl (by decide +kernel) ⟨Nat.le_of_ble_eq_true rfl, Nat.le_of_ble_eq_true rfl⟩) (i := 4) (by omega) h4 rfl rfl hl.1 rfl (Nat.le_of_ble_eq_true rfl) dX2_readAs_11 ⟨Nat.le_of_ble_eq_true rfl, Nat.le_of_ble_eq_true rfl⟩ (m_deti (fun H locs hI => ?_))
  refine m_top (show (fun j => nI (gar j)) (a % 16) = nI (gar (a % 16)) from rfl) ?_
  refine lv_ixor hx hb dX2_readAs_14 ?_
  have hq := hgar (a % 16) ha16
  have hxr := xor32 co hc _ hq
  refine m_top hxr.1 ?_
  refine lv_istore (lv' := [(4, .int (nI (co ^^^ gar (a % 16)))), (3, .int (nI (a % 16))), (0, .ref (ad 1)), (1, .int (nI co)), (2, .int (nI a))]) hx hb dX2_readAs_15 hl (by decide) rfl (fun ls hl => ?_)
  refine lv_aload_n hx hb dX2_readAs_17 rfl (lv_at hl 2 rfl) ?_
  refine m_get (ci := 2) (C := RX2) (T := TX2) (N' := 3) hx hb hts (by decide +kernel) hown hE hI 1 (by omega) h1 rfl 0 (by decide) (hts (.fieldLink RX2 14 "TapePrinter$Wire" "late" "LTapePrinter$Row;") (by decide +kernel)) rfl dX2_readAs_18 ?_
  refine lv_iload_n hx hb dX2_readAs_21 rfl (lv_at hl 1 rfl) ?_
  refine m_callVi (As := [.int (nI (a % 16))]) (rest := []) ⟨hx, hb, hml, hown, hts⟩ hE hI (c_X0_at k l ad N g _ 2 16 16 lat (a % 16) (by omega) (by omega) (by omega) ⟨h2, h3⟩ (by omega)) (cwV 1 hts gX2_readAs_X0_at rfl rfl rfl (by decide +kernel) ⟨Nat.le_of_ble_eq_true rfl, Nat.le_of_ble_eq_true rfl⟩) (i := 2) (by omega) h2 rfl rfl hl.1 rfl (Nat.le_of_ble_eq_true rfl) dX2_readAs_22 ⟨Nat.le_of_ble_eq_true rfl, Nat.le_of_ble_eq_true rfl⟩ (m_deti (fun H locs hI => ?_))
  refine lv_istore (lv' := [(5, .int (lat (a % 16))), (4, .int (nI (co ^^^ gar (a % 16)))), (3, .int (nI (a % 16))), (0, .ref (ad 1)), (1, .int (nI co)), (2, .int (nI a))]) hx hb dX2_readAs_25 hl (by decide) rfl (fun ls hl => ?_)
  refine lv_iload hx hb dX2_readAs_27 (lv_at hl 0 rfl) ?_
  refine lv_aload_n hx hb dX2_readAs_29 rfl (lv_at hl 3 rfl) ?_
  refine m_get (ci := 2) (C := RX2) (T := TX2) (N' := 3) hx hb hts (by decide +kernel) hown hE hI 1 (by omega) h1 rfl 2 (by decide) (hts (.fieldLink RX2 27 "TapePrinter$Wire" "play" "I") (by decide +kernel)) rfl dX2_readAs_30 ?_
  refine lv_icmp_le (tgt := 41) hx hb dX2_readAs_33 (by decide) (fun c_33 => ?_) (fun c_33 => ?_)
  · refine lv_iload hx hb dX2_readAs_41 (lv_at hl 0 rfl) ?_
    refine lv_ineg hx hb dX2_readAs_43 ?_
    refine lv_aload_n hx hb dX2_readAs_44 rfl (lv_at hl 3 rfl) ?_
    refine m_get (ci := 2) (C := RX2) (T := TX2) (N' := 3) hx hb hts (by decide +kernel) hown hE hI 1 (by omega) h1 rfl 2 (by decide) (hts (.fieldLink RX2 27 "TapePrinter$Wire" "play" "I") (by decide +kernel)) rfl dX2_readAs_45 ?_
    refine lv_icmp_le (tgt := 61) hx hb dX2_readAs_48 (by decide) (fun c_48 => ?_) (fun c_48 => ?_)
    · refine lv_iload hx hb dX2_readAs_61 (lv_at hl 1 rfl) ?_
      have k1 : ¬ nI play < lat (a % 16) := by rw [Int32.lt_iff_toInt_lt]; rw [Int32.le_iff_toInt_le] at c_33; omega
      have k2 : ¬ nI play < -lat (a % 16) := by rw [Int32.lt_iff_toInt_lt]; rw [Int32.le_iff_toInt_le] at c_48; omega
      exact m_iret hx hb hr hlocks hI (⟨by unfold rdF; rw [if_neg k1, if_neg k2], rfl⟩) dX2_readAs_63
    · refine lv_iload hx hb dX2_readAs_51 (lv_at hl 1 rfl) ?_
      refine lv_iconst (v := nI 1) hx hb dX2_readAs_53 (by decide) ?_
      refine lv_ishl hx hb dX2_readAs_54 ?_
      refine lv_iconst (v := nI 1) hx hb dX2_readAs_55 (by decide) ?_
      refine lv_ior hx hb dX2_readAs_56 ?_
      refine lv_bipush (v := nI 31) hx hb dX2_readAs_57 (by decide) ?_
      refine lv_iand hx hb dX2_readAs_59 ?_
      refine m_top (shl32 _ hxr.2) ?_
      have k1 : ¬ nI play < lat (a % 16) := by rw [Int32.lt_iff_toInt_lt]; rw [Int32.le_iff_toInt_le] at c_33; omega
      have k2 : nI play < -lat (a % 16) := by rw [Int32.lt_iff_toInt_lt]; rw [Int32.le_iff_toInt_le] at c_48; omega
      exact m_iret hx hb hr hlocks hI (⟨by unfold rdF; rw [if_neg k1, if_pos k2], rfl⟩) dX2_readAs_60
  · refine lv_iload hx hb dX2_readAs_36 (lv_at hl 1 rfl) ?_
    refine lv_iconst (v := nI 1) hx hb dX2_readAs_38 (by decide) ?_
    refine lv_ishr hx hb dX2_readAs_39 ?_
    refine m_top (shr32 _ hxr.2) ?_
    have k1 : nI play < lat (a % 16) := by rw [Int32.lt_iff_toInt_lt]; rw [Int32.le_iff_toInt_le] at c_33; omega
    exact m_iret hx hb hr hlocks hI (⟨by unfold rdF; rw [if_pos k1], rfl⟩) dX2_readAs_40
