/-! The reference. -/
theorem isIn_N {v : Int32} {h : Nat} (hh : h < 2147483647) : (decide (nI 0 ≤ v) && decide (v ≤ nI h)) = inN v (h + 1) := by
  unfold inN
  rw [show nI 0 = (0 : Int32) from rfl]
  congr 1
  rw [decide_eq_decide, Int32.le_iff_toInt_le, Int32.lt_iff_toInt_lt, nI_toInt (by omega), nI_toInt (by omega)]
  omega
theorem toInt_pred {n : Nat} (hn : n < 2147483647) : (nI n - nI 1).toInt = (n : Int) - 1 := by
  cases n with
  | zero => decide
  | succ n =>
    rw [show nI (n + 1) - nI 1 = nI n from pk_sub (by omega), nI_toInt (by omega)]
    omega
theorem isIn_P {v : Int32} {n : Nat} (hn : n < 2147483647) : (decide (nI 0 ≤ v) && decide (v ≤ nI n - nI 1)) = inN v n := by
  unfold inN
  rw [show nI 0 = (0 : Int32) from rfl]
  congr 1
  rw [decide_eq_decide, Int32.le_iff_toInt_le, Int32.lt_iff_toInt_lt, toInt_pred hn, nI_toInt (by omega)]
  omega
theorem isIn_C {v : Int32} : (decide (nI 1 ≤ v) && decide (v ≤ nI 54)) = inC v := rfl
theorem isIn_9 {v : Int32} : (decide (-9 ≤ v) && decide (v ≤ nI 9)) = in9 v := rfl
theorem isIn_120 {v : Int32} : (decide (nI 1 ≤ v) && decide (v ≤ nI 120)) = in120 v := rfl
theorem dep_ty0 : ∀ x, x < 32 → (decide (x = 31) || decide (x = 27) || decide (x = 4) || decide (x = 2) || decide (x = 8) || decide (x = 0) || dep x) = true := by decide +kernel
theorem dep_ty (x : Nat) (h : x < 32) (h1 : x ≠ 31) (h2 : x ≠ 27) (h3 : x ≠ 4) (h4 : x ≠ 2) (h5 : x ≠ 8) (h6 : x ≠ 0) : dep x = true := by
  have h0 := dep_ty0 x h
  rw [decide_eq_false h1, decide_eq_false h2, decide_eq_false h3, decide_eq_false h4, decide_eq_false h5, decide_eq_false h6] at h0
  exact h0
/-- how many codes to c print by the shift -/
def tcn : Nat → Nat
  | 0 => 0
  | c + 1 => if dep (c + 1) then tcn c + 1 else tcn c
theorem tcn_le : ∀ c, c < 32 → tcn c ≤ 26 := by decide +kernel
theorem tcn_lt : ∀ c, c < 31 → tcn c < 26 → c < 30 := by decide +kernel
theorem tcn_cd : ∀ q, q < 27 → 1 ≤ q → ∀ c, c < 31 → tcn c = q → tcn (c - 1) < q → c = cd q := by decide +kernel
theorem cd_26 : ∀ q, q < 27 → 1 ≤ q → cd (q + 26) = cd q := by decide +kernel
theorem chL_tcn : ∀ c, c < 32 → dep c = true → chL c = tcn c := by decide +kernel
theorem chF_not : ∀ c, c < 32 → dep c = false → c ≠ 4 → c ≠ 2 → ∀ b, chF c b = 0 := by decide +kernel
theorem chF_4 (b : Bool) : chF 4 b = 53 := by cases b <;> decide
theorem chF_2 (b : Bool) : chF 2 b = 54 := by cases b <;> decide
theorem chF_8 (b : Bool) : chF 8 b = 0 := by cases b <;> decide
theorem chF_54 : ∀ c, c < 32 → c ≠ 2 → ∀ b, chF c b ≠ 54 := by decide +kernel
theorem chF_dep {c : Nat} (hc : c < 32) (h : dep c = true) (b : Bool) : chF c b = if b then tcn c + 26 else tcn c := by
  unfold chF
  rw [h, Bool.and_true, chL_tcn c hc h]
/-- units of a set, the first m -/
def pcn (x : Nat) : Nat → Nat
  | 0 => 0
  | m + 1 => pcn x m + x / 2 ^ m % 2
theorem pcn_5 : ∀ x, x < 32 → pcn x 5 = pc5 x := by decide +kernel
theorem pcn_le (x m : Nat) : pcn x m ≤ m := by
  induction m with
  | zero => exact Nat.le_refl _
  | succ m ih => have := Nat.mod_lt (x / 2 ^ m) (y := 2) (by omega); simp only [pcn]; omega
theorem bit5 : ∀ x, x < 32 → ∀ i, i < 5 → (nI x >>> (nI i &&& 31)) &&& nI 1 = nI (x / 2 ^ i % 2) := by decide +kernel
/-- the page of the reference: lines, their lengths, the characters -/
abbrev PM : Type := Nat × (Nat → Nat) × (Nat → Nat)
def mNl (p : PM) : PM := if p.1 = 20 then (20, va_up (va_cpy p.2.1 p.2.1 1 0 19) 19 0, va_cpy p.2.2 p.2.2 40 0 760) else (p.1 + 1, va_up p.2.1 p.1 0, p.2.2)
def mFull (p : PM) : Bool := decide (p.2.1 (p.1 - 1) = 40)
def mAdd (p : PM) (ch : Nat) : PM := (p.1, va_up p.2.1 (p.1 - 1) (p.2.1 (p.1 - 1) + 1), va_up p.2.2 (40 * (p.1 - 1) + p.2.1 (p.1 - 1)) ch)
def mWf (p : PM) : Prop := 0 < p.1 ∧ p.1 ≤ 20 ∧ ∀ j, j < 20 → p.2.1 j ≤ 40
theorem mWf_nl {p : PM} (h : mWf p) : mWf (mNl p) := by
  obtain ⟨u, ln, pg⟩ := p
  obtain ⟨h1, h2, h3⟩ := h
  have h3' : ∀ j, j < 20 → ln j ≤ 40 := h3
  have h2' : u ≤ 20 := h2
  unfold mNl
  by_cases hu : u = 20
  · rw [if_pos hu]
    refine ⟨by show 0 < 20; omega, by show 20 ≤ 20; omega, fun j hj => ?_⟩
    show va_up (va_cpy ln ln 1 0 19) 19 0 j ≤ 40
    unfold va_up va_cpy
    split
    · omega
    · split
      · exact h3' _ (by omega)
      · exact h3' _ hj
  · rw [if_neg hu]
    refine ⟨by show 0 < u + 1; omega, by show u + 1 ≤ 20; omega, fun j hj => ?_⟩
    show va_up ln u 0 j ≤ 40
    unfold va_up
    split
    · omega
    · exact h3' _ hj
theorem mWf_add {p : PM} {ch : Nat} (h : mWf p) (hf : mFull p = false) : mWf (mAdd p ch) := by
  obtain ⟨u, ln, pg⟩ := p
  obtain ⟨h1, h2, h3⟩ := h
  have h3' : ∀ j, j < 20 → ln j ≤ 40 := h3
  have h1' : 0 < u := h1
  have h2' : u ≤ 20 := h2
  have hf' : ¬ ln (u - 1) = 40 := of_decide_eq_false hf
  refine ⟨h1, h2, fun j hj => ?_⟩
  show va_up ln (u - 1) (ln (u - 1) + 1) j ≤ 40
  have := h3' (u - 1) (by omega)
  unfold va_up
  split
  · omega
  · exact h3' _ hj
theorem mWf_ob {p : PM} {ch : Nat} (h : mWf p) : mWf (pOb mNl mFull mAdd ch p) := by
  unfold pOb
  split
  · exact mWf_nl h
  · split
    · exact h
    · split
      · exact h
      · rename_i hf; exact mWf_add h (by cases hh : mFull p <;> first | rfl | exact absurd hh hf)
/-- the reference's object and its rows -/
abbrev MR (k : mC) (ad : Nat → Nat) (g : Nat → va_E) (th : Nat) (uns : Bool) (play rd n : Nat) (lat : Nat → Int32) (gar T : Nat → Nat) (y : YT PM) : Prop :=
  g 50 = .inr (4, [.int (nI th), .int (bI y.2.2.2.2.1), .int (bI uns), .int (nI play), .int (nI y.2.2.2.2.2.1), .ref (ad 51), .ref (ad 52), .ref (ad 53), .ref (ad 54), .ref (ad 55), .int (nI n), .int (nI rd), .int (nI y.1), .int y.2.1, .int y.2.2.1, .int y.2.2.2.1]) ∧
  g 51 = .inl (k.2.1.1, 20, .inl (fun j => nI (y.2.2.2.2.2.2.1 j))) ∧ g 52 = .inl (k.2.1.1, 800, .inl (fun j => nI (y.2.2.2.2.2.2.2 j))) ∧ g 53 = .inl (k.2.1.1, 16, .inl lat) ∧ g 54 = .inl (k.2.1.1, 16, .inl (fun j => nI (gar j))) ∧ g 55 = .inl (k.2.1.1, 120, .inl (fun j => nI (T j)))
theorem cpy_nI (f h : Nat → Nat) (a b m : Nat) : va_cpy (fun j => nI (f j)) (fun j => nI (h j)) a b m = fun j => nI (va_cpy f h a b m j) := by
  funext i
  unfold va_cpy
  split <;> rfl
set_option maxHeartbeats 4000000 in
set_option maxRecDepth 100000 in
theorem c_X4_isIn (k : mC) (l : Launch) (ad : Nat → Nat) (N : Nat) (g : Nat → va_E) (sz : Nat) (x lo hi : Int32) : mCi k l yX4_isIn wsX4_isIn { frames := 0, cells := 0, slots := 0, locals := 0 } ad N g sz [.int x, .int lo, .int hi] (fun r g1 => r = bI (decide (lo ≤ x) && decide (x ≤ hi)) ∧ g1 = g) := by
  refine mOf (Qc := fun z9 => va_Qi (fun r g1 => r = bI (decide (lo ≤ x) && decide (x ≤ hi)) ∧ g1 = g) (mB k ad N) (mA ad N z9)) (cc := cX4_isIn) (maxL := 3) (ret := (some .boolean)) (by decide) rfl (Nat.le_of_ble_eq_true rfl) ?_
  intro p e s m below meth c hx hb hr hts hown hlocks hml hin hE hI ls hl
  have hl : lv_has ls 3 [(0, .int x), (1, .int lo), (2, .int hi)] := hl
  refine lv_iload_n hx hb dX4_isIn_0 rfl (lv_at hl 0 rfl) ?_
  refine lv_iload_n hx hb dX4_isIn_1 rfl (lv_at hl 1 rfl) ?_
  refine lv_icmp_lt (tgt := 14) hx hb dX4_isIn_2 (by decide) (fun c_2 => ?_) (fun c_2 => ?_)
  · refine lv_iconst (v := nI 0) hx hb dX4_isIn_14 (by decide) ?_
    refine m_top (y := bI false) (by decide) ?_
    exact m_zret (v := false) hx hb hr hlocks hI (⟨by rw [decide_eq_false (show ¬ lo ≤ x from fun q => by rw [Int32.lt_iff_toInt_lt] at c_2; rw [Int32.le_iff_toInt_le] at q; omega)] <;> rfl, rfl⟩) dX4_isIn_15
  · refine lv_iload_n hx hb dX4_isIn_5 rfl (lv_at hl 0 rfl) ?_
    refine lv_iload_n hx hb dX4_isIn_6 rfl (lv_at hl 2 rfl) ?_
    refine lv_icmp_gt (tgt := 14) hx hb dX4_isIn_7 (by decide) (fun c_7 => ?_) (fun c_7 => ?_)
    · refine lv_iconst (v := nI 0) hx hb dX4_isIn_14 (by decide) ?_
      refine m_top (y := bI false) (by decide) ?_
      exact m_zret (v := false) hx hb hr hlocks hI (⟨by rw [decide_eq_false (show ¬ x ≤ hi from fun q => by rw [Int32.lt_iff_toInt_lt] at c_7; rw [Int32.le_iff_toInt_le] at q; omega), Bool.and_false] <;> rfl, rfl⟩) dX4_isIn_15
    · refine lv_iconst (v := nI 1) hx hb dX4_isIn_10 (by decide) ?_
      refine lv_goto (tgt := 15) hx hb dX4_isIn_11 (by decide) ?_
      refine m_top (y := bI true) (by decide) ?_
      exact m_zret (v := true) hx hb hr hlocks hI (⟨by rw [decide_eq_true (show x ≤ hi from by rw [Int32.lt_iff_toInt_lt] at c_7; rw [Int32.le_iff_toInt_le]; omega), decide_eq_true (show lo ≤ x from by rw [Int32.lt_iff_toInt_lt] at c_2; rw [Int32.le_iff_toInt_le]; omega)] <;> rfl, rfl⟩) dX4_isIn_15
set_option maxHeartbeats 4000000 in
set_option maxRecDepth 100000 in
theorem c_X4_isCode (k : mC) (l : Launch) (ad : Nat → Nat) (N : Nat) (g : Nat → va_E) (sz : Nat) (x : Int32) : mCi k l yX4_isCode wsX4_isCode { frames := 1, cells := 0, slots := 0, locals := 22 } ad N g sz [.int x] (fun r g1 => r = bI (inN x 32) ∧ g1 = g) := by
  refine mOf (Qc := fun z9 => va_Qi (fun r g1 => r = bI (inN x 32) ∧ g1 = g) (mB k ad N) (mA ad N z9)) (cc := cX4_isCode) (maxL := 1) (ret := (some .boolean)) (by decide) rfl (Nat.le_of_ble_eq_true rfl) ?_
  intro p e s m below meth c hx hb hr hts hown hlocks hml hin hE hI ls hl
  have hl : lv_has ls 1 [(0, .int x)] := hl
  refine lv_iload_n hx hb dX4_isCode_0 rfl (lv_at hl 0 rfl) ?_
  refine lv_iconst (v := nI 0) hx hb dX4_isCode_1 (by decide) ?_
  refine lv_bipush (v := nI 31) hx hb dX4_isCode_2 (by decide) ?_
  refine m_callSi (As := [.int x, .int (nI 0), .int (nI 31)]) (rest := []) ⟨hx, hb, hml, hown, hts⟩ hE hI (c_X4_isIn k l ad N g _ x (nI 0) (nI 31)) (va_cwS 3 hts gX4_isCode_X4_isIn rfl rfl rfl (by decide +kernel) ⟨Nat.le_of_ble_eq_true rfl, Nat.le_of_ble_eq_true rfl⟩) rfl hl.1 rfl (Nat.le_of_ble_eq_true rfl) dX4_isCode_4 ⟨Nat.le_of_ble_eq_true rfl, Nat.le_of_ble_eq_true rfl⟩ (m_deti (fun H locs hI => ?_))
  refine m_top (show bI (decide (nI 0 ≤ x) && decide (x ≤ nI 31)) = bI (inN x 32) from by rw [isIn_N (h := 31) (by omega)]) ?_
  exact m_zret (v := inN x 32) hx hb hr hlocks hI (⟨rfl, rfl⟩) dX4_isCode_7
set_option maxHeartbeats 4000000 in
set_option maxRecDepth 100000 in
theorem c_X4_isCharacter (k : mC) (l : Launch) (ad : Nat → Nat) (N : Nat) (g : Nat → va_E) (sz : Nat) (x : Int32) : mCi k l yX4_isCharacter wsX4_isCharacter { frames := 1, cells := 0, slots := 0, locals := 22 } ad N g sz [.int x] (fun r g1 => r = bI (inC x) ∧ g1 = g) := by
  refine mOf (Qc := fun z9 => va_Qi (fun r g1 => r = bI (inC x) ∧ g1 = g) (mB k ad N) (mA ad N z9)) (cc := cX4_isCharacter) (maxL := 1) (ret := (some .boolean)) (by decide) rfl (Nat.le_of_ble_eq_true rfl) ?_
  intro p e s m below meth c hx hb hr hts hown hlocks hml hin hE hI ls hl
  have hl : lv_has ls 1 [(0, .int x)] := hl
  refine lv_iload_n hx hb dX4_isCharacter_0 rfl (lv_at hl 0 rfl) ?_
  refine lv_iconst (v := nI 1) hx hb dX4_isCharacter_1 (by decide) ?_
  refine lv_bipush (v := nI 54) hx hb dX4_isCharacter_2 (by decide) ?_
  refine m_callSi (As := [.int x, .int (nI 1), .int (nI 54)]) (rest := []) ⟨hx, hb, hml, hown, hts⟩ hE hI (c_X4_isIn k l ad N g _ x (nI 1) (nI 54)) (va_cwS 3 hts gX4_isCharacter_X4_isIn rfl rfl rfl (by decide +kernel) ⟨Nat.le_of_ble_eq_true rfl, Nat.le_of_ble_eq_true rfl⟩) rfl hl.1 rfl (Nat.le_of_ble_eq_true rfl) dX4_isCharacter_4 ⟨Nat.le_of_ble_eq_true rfl, Nat.le_of_ble_eq_true rfl⟩ (m_deti (fun H locs hI => ?_))
  refine m_top (show bI (decide (nI 1 ≤ x) && decide (x ≤ nI 54)) = bI (inC x) from by rw [isIn_C]) ?_
  exact m_zret (v := inC x) hx hb hr hlocks hI (⟨rfl, rfl⟩) dX4_isCharacter_7
set_option maxHeartbeats 4000000 in
set_option maxRecDepth 100000 in
theorem c_X4_isType (k : mC) (l : Launch) (ad : Nat → Nat) (N : Nat) (g : Nat → va_E) (sz : Nat) (x : Nat) (hx32 : x < 32) : mCi k l yX4_isType wsX4_isType { frames := 0, cells := 0, slots := 0, locals := 0 } ad N g sz [.int (nI x)] (fun r g1 => r = bI (dep x) ∧ g1 = g) := by
  refine mOf (Qc := fun z9 => va_Qi (fun r g1 => r = bI (dep x) ∧ g1 = g) (mB k ad N) (mA ad N z9)) (cc := cX4_isType) (maxL := 1) (ret := (some .boolean)) (by decide) rfl (Nat.le_of_ble_eq_true rfl) ?_
  intro p e s m below meth c hx hb hr hts hown hlocks hml hin hE hI ls hl
  have hl : lv_has ls 1 [(0, .int (nI x))] := hl
  refine lv_iload_n hx hb dX4_isType_0 rfl (lv_at hl 0 rfl) ?_
  refine lv_bipush (v := nI 31) hx hb dX4_isType_1 (by decide) ?_
  refine m_ceqN (tgt := 36) hx hb (by omega) (by omega) dX4_isType_3 (by decide) (fun c_3 => ?_) (fun c_3 => ?_)
  · refine lv_iconst (v := nI 0) hx hb dX4_isType_36 (by decide) ?_
    refine m_top (y := bI false) (by decide) ?_
    exact m_zret (v := false) hx hb hr hlocks hI (⟨by rw [c_3]; decide, rfl⟩) dX4_isType_37
  · refine lv_iload_n hx hb dX4_isType_6 rfl (lv_at hl 0 rfl) ?_
    refine lv_bipush (v := nI 27) hx hb dX4_isType_7 (by decide) ?_
    refine m_ceqN (tgt := 36) hx hb (by omega) (by omega) dX4_isType_9 (by decide) (fun c_9 => ?_) (fun c_9 => ?_)
    · refine lv_iconst (v := nI 0) hx hb dX4_isType_36 (by decide) ?_
      refine m_top (y := bI false) (by decide) ?_
      exact m_zret (v := false) hx hb hr hlocks hI (⟨by rw [c_9]; decide, rfl⟩) dX4_isType_37
    · refine lv_iload_n hx hb dX4_isType_12 rfl (lv_at hl 0 rfl) ?_
      refine lv_iconst (v := nI 4) hx hb dX4_isType_13 (by decide) ?_
      refine m_ceqN (tgt := 36) hx hb (by omega) (by omega) dX4_isType_14 (by decide) (fun c_14 => ?_) (fun c_14 => ?_)
      · refine lv_iconst (v := nI 0) hx hb dX4_isType_36 (by decide) ?_
        refine m_top (y := bI false) (by decide) ?_
        exact m_zret (v := false) hx hb hr hlocks hI (⟨by rw [c_14]; decide, rfl⟩) dX4_isType_37
      · refine lv_iload_n hx hb dX4_isType_17 rfl (lv_at hl 0 rfl) ?_
        refine lv_iconst (v := nI 2) hx hb dX4_isType_18 (by decide) ?_
        refine m_ceqN (tgt := 36) hx hb (by omega) (by omega) dX4_isType_19 (by decide) (fun c_19 => ?_) (fun c_19 => ?_)
        · refine lv_iconst (v := nI 0) hx hb dX4_isType_36 (by decide) ?_
          refine m_top (y := bI false) (by decide) ?_
          exact m_zret (v := false) hx hb hr hlocks hI (⟨by rw [c_19]; decide, rfl⟩) dX4_isType_37
        · refine lv_iload_n hx hb dX4_isType_22 rfl (lv_at hl 0 rfl) ?_
          refine lv_bipush (v := nI 8) hx hb dX4_isType_23 (by decide) ?_
          refine m_ceqN (tgt := 36) hx hb (by omega) (by omega) dX4_isType_25 (by decide) (fun c_25 => ?_) (fun c_25 => ?_)
          · refine lv_iconst (v := nI 0) hx hb dX4_isType_36 (by decide) ?_
            refine m_top (y := bI false) (by decide) ?_
            exact m_zret (v := false) hx hb hr hlocks hI (⟨by rw [c_25]; decide, rfl⟩) dX4_isType_37
          · refine lv_iload_n hx hb dX4_isType_28 rfl (lv_at hl 0 rfl) ?_
            refine m_zeqN (tgt := 36) hx hb (by omega) dX4_isType_29 (by decide) (fun c_29 => ?_) (fun c_29 => ?_)
            · refine lv_iconst (v := nI 0) hx hb dX4_isType_36 (by decide) ?_
              refine m_top (y := bI false) (by decide) ?_
              exact m_zret (v := false) hx hb hr hlocks hI (⟨by rw [c_29]; decide, rfl⟩) dX4_isType_37
            · refine lv_iconst (v := nI 1) hx hb dX4_isType_32 (by decide) ?_
              refine lv_goto (tgt := 37) hx hb dX4_isType_33 (by decide) ?_
              refine m_top (y := bI true) (by decide) ?_
              exact m_zret (v := true) hx hb hr hlocks hI (⟨by rw [dep_ty x hx32 c_3 c_9 c_14 c_19 c_25 c_29], rfl⟩) dX4_isType_37
set_option maxHeartbeats 4000000 in
set_option maxRecDepth 100000 in
theorem c_X4_codeOf (k : mC) (l : Launch) (ad : Nat → Nat) (N : Nat) (g : Nat → va_E) (sz : Nat) (x : Nat) (hx1 : 1 ≤ x) (hx54 : x ≤ 54) : mCi k l yX4_codeOf wsX4_codeOf { frames := 1, cells := 0, slots := 0, locals := 20 } ad N g sz [.int (nI x)] (fun r g1 => r = nI (cd x) ∧ g1 = g) := by
  refine mOf (Qc := fun z9 => va_Qi (fun r g1 => r = nI (cd x) ∧ g1 = g) (mB k ad N) (mA ad N z9)) (cc := cX4_codeOf) (maxL := 3) (ret := (some .int)) (by decide) rfl (Nat.le_of_ble_eq_true rfl) ?_
  intro p e s m below meth c hx hb hr hts hown hlocks hml hin hE hI ls hl
  have hl : lv_has ls 3 [(0, .int (nI x))] := hl
  refine lv_iload_n hx hb dX4_codeOf_0 rfl (lv_at hl 0 rfl) ?_
  refine lv_bipush (v := nI 53) hx hb dX4_codeOf_1 (by decide) ?_
  refine m_cneN (tgt := 8) hx hb (by omega) (by omega) dX4_codeOf_3 (by decide) (fun c_3 => ?_) (fun c_3 => ?_)
  · refine lv_iload_n hx hb dX4_codeOf_8 rfl (lv_at hl 0 rfl) ?_
    refine lv_bipush (v := nI 54) hx hb dX4_codeOf_9 (by decide) ?_
    refine m_cneN (tgt := 16) hx hb (by omega) (by omega) dX4_codeOf_11 (by decide) (fun c_11 => ?_) (fun c_11 => ?_)
    · refine lv_iload_n hx hb dX4_codeOf_16 rfl (lv_at hl 0 rfl) ?_
      refine lv_bipush (v := nI 26) hx hb dX4_codeOf_17 (by decide) ?_
      refine m_cleN (tgt := 29) hx hb (by omega) (by omega) dX4_codeOf_19 (by decide) (fun c_19 => ?_) (fun c_19 => ?_)
      · refine lv_iload_n hx hb dX4_codeOf_29 rfl (lv_at hl 0 rfl) ?_
        refine lv_istore_n (lv' := [(1, .int (nI x)), (0, .int (nI x))]) hx hb dX4_codeOf_30 rfl hl (by decide) rfl (fun ls hl => ?_)
        refine lv_iconst (v := nI 0) hx hb dX4_codeOf_31 (by decide) ?_
        refine lv_istore_n (lv' := [(2, .int (nI 0)), (1, .int (nI x)), (0, .int (nI x))]) hx hb dX4_codeOf_32 rfl hl (by decide) rfl (fun ls hl => ?_)
        obtain ⟨q0, hq0⟩ : ∃ zz, zz = x := ⟨_, rfl⟩
        have hq26 : q0 < 27 := by omega
        have hq1 : 1 ≤ q0 := by omega
        have hcdq : cd x = cd q0 := by rw [hq0]
        have hl : lv_has ls 3 [(2, .int (nI 0)), (1, .int (nI (q0 - tcn 0))), (0, .int (nI x))] := by rw [show q0 - tcn 0 = x from by rw [hq0]; rfl]; exact hl
        refine m_loop (σ := Nat) (fun ci => ci < 31 ∧ tcn ci ≤ q0 ∧ (ci = 0 ∨ tcn (ci - 1) < q0)) (fun ci => 31 - ci) (fun ci => g) (fun ci => [(1, .int (nI (q0 - tcn ci))), (2, .int (nI ci))]) (nL := 3) 0 ⟨by omega, Nat.zero_le _, Or.inl rfl⟩ hI (lv_sub hl [1, 0] rfl) ?_
        rintro ci ⟨hc31, htc, hc0⟩ ih33 H locs ls hI hl
        have hI : mI k ad N g (mA ad N s.heap.size) s H locs := hI
        have hl : lv_has ls 3 [(1, .int (nI (q0 - tcn ci))), (2, .int (nI ci))] := hl
        refine lv_iload_n hx hb dX4_codeOf_33 rfl (lv_at hl 0 rfl) ?_
        refine m_zleN (tgt := 58) hx hb (by omega) dX4_codeOf_34 (by decide) (fun c_34 => ?_) (fun c_34 => ?_)
        · refine lv_iload_n hx hb dX4_codeOf_58 rfl (lv_at hl 1 rfl) ?_
          have hcc : ci = cd q0 := by
            rcases hc0 with h | h
            · rw [h] at c_34 htc; have : tcn 0 = 0 := rfl; omega
            · exact tcn_cd q0 hq26 hq1 ci hc31 (by omega) h
          exact m_iret hx hb hr hlocks hI (⟨by rw [hcdq, ← hcc], rfl⟩) dX4_codeOf_59
        · have hc30 := tcn_lt ci hc31 (by omega)
          refine lv_iinc (v := nI (ci + 1)) (lv' := [(2, .int (nI (ci + 1))), (1, .int (nI (q0 - tcn ci)))]) hx hb dX4_codeOf_37 hl (k := 1) rfl (nI_add ci 1) (by decide) rfl (fun ls hl => ?_)
          refine lv_iload_n hx hb dX4_codeOf_40 rfl (lv_at hl 1 rfl) ?_
          refine lv_iload_n hx hb dX4_codeOf_41 rfl (lv_at hl 0 rfl) ?_
          refine m_callSi (As := [.int (nI (ci + 1))]) (rest := [.int (nI (q0 - tcn ci))]) ⟨hx, hb, hml, hown, hts⟩ hE hI (c_X4_isType k l ad N g _ (ci + 1) (by omega)) (va_cwS 1 hts gX4_codeOf_X4_isType rfl rfl rfl (by decide +kernel) ⟨Nat.le_of_ble_eq_true rfl, Nat.le_of_ble_eq_true rfl⟩) rfl hl.1 rfl (Nat.le_of_ble_eq_true rfl) dX4_codeOf_42 ⟨Nat.le_of_ble_eq_true rfl, Nat.le_of_ble_eq_true rfl⟩ (m_deti (fun H locs hI => ?_))
          refine m_zeqB (tgt := 52) hx hb dX4_codeOf_45 (by decide) (fun c_45 => ?_) (fun c_45 => ?_)
          · refine lv_iconst (v := nI 0) hx hb dX4_codeOf_52 (by decide) ?_
            refine m_isubN hx hb (by omega) dX4_codeOf_53 ?_
            refine lv_istore_n (lv' := [(1, .int (nI ((q0 - tcn ci) - 0))), (2, .int (nI (ci + 1)))]) hx hb dX4_codeOf_54 rfl hl (by decide) rfl (fun ls hl => ?_)
            have htn : tcn (ci + 1) = tcn ci := by show (if dep (ci + 1) then tcn ci + 1 else tcn ci) = _; rw [c_45] <;> rfl
            have hl : lv_has ls 3 [(1, .int (nI (q0 - tcn (ci + 1)))), (2, .int (nI (ci + 1)))] := by rw [show q0 - tcn (ci + 1) = (q0 - tcn ci) - 0 from by rw [htn]; omega]; exact hl
            refine lv_goto (tgt := 33) hx hb dX4_codeOf_55 (by decide) ?_
            exact ih33 (ci + 1) ⟨by omega, by omega, Or.inr (by show tcn ci < q0; omega)⟩ (show 31 - (ci + 1) < 31 - ci by omega) _ _ _ hI (lv_sub hl [0, 1] rfl)
          · refine lv_iconst (v := nI 1) hx hb dX4_codeOf_48 (by decide) ?_
            refine lv_goto (tgt := 53) hx hb dX4_codeOf_49 (by decide) ?_
            refine m_isubN hx hb (by omega) dX4_codeOf_53 ?_
            refine lv_istore_n (lv' := [(1, .int (nI ((q0 - tcn ci) - 1))), (2, .int (nI (ci + 1)))]) hx hb dX4_codeOf_54 rfl hl (by decide) rfl (fun ls hl => ?_)
            have htn : tcn (ci + 1) = tcn ci + 1 := by show (if dep (ci + 1) then tcn ci + 1 else tcn ci) = _; rw [c_45] <;> rfl
            have hl : lv_has ls 3 [(1, .int (nI (q0 - tcn (ci + 1)))), (2, .int (nI (ci + 1)))] := by rw [show q0 - tcn (ci + 1) = (q0 - tcn ci) - 1 from by rw [htn]; omega]; exact hl
            refine lv_goto (tgt := 33) hx hb dX4_codeOf_55 (by decide) ?_
            exact ih33 (ci + 1) ⟨by omega, by omega, Or.inr (by show tcn ci < q0; omega)⟩ (show 31 - (ci + 1) < 31 - ci by omega) _ _ _ hI (lv_sub hl [0, 1] rfl)
      · refine lv_iload_n hx hb dX4_codeOf_22 rfl (lv_at hl 0 rfl) ?_
        refine lv_bipush (v := nI 26) hx hb dX4_codeOf_23 (by decide) ?_
        refine m_isubN hx hb (by omega) dX4_codeOf_25 ?_
        refine lv_goto (tgt := 30) hx hb dX4_codeOf_26 (by decide) ?_
        refine lv_istore_n (lv' := [(1, .int (nI (x - 26))), (0, .int (nI x))]) hx hb dX4_codeOf_30 rfl hl (by decide) rfl (fun ls hl => ?_)
        refine lv_iconst (v := nI 0) hx hb dX4_codeOf_31 (by decide) ?_
        refine lv_istore_n (lv' := [(2, .int (nI 0)), (1, .int (nI (x - 26))), (0, .int (nI x))]) hx hb dX4_codeOf_32 rfl hl (by decide) rfl (fun ls hl => ?_)
        obtain ⟨q0, hq0⟩ : ∃ zz, zz = x - 26 := ⟨_, rfl⟩
        have hq26 : q0 < 27 := by omega
        have hq1 : 1 ≤ q0 := by omega
        have hcdq : cd x = cd q0 := by rw [← cd_26 q0 hq26 hq1]; congr 1; omega
        have hl : lv_has ls 3 [(2, .int (nI 0)), (1, .int (nI (q0 - tcn 0))), (0, .int (nI x))] := by rw [show q0 - tcn 0 = x - 26 from by rw [hq0]; rfl]; exact hl
        refine m_loop (σ := Nat) (fun ci => ci < 31 ∧ tcn ci ≤ q0 ∧ (ci = 0 ∨ tcn (ci - 1) < q0)) (fun ci => 31 - ci) (fun ci => g) (fun ci => [(1, .int (nI (q0 - tcn ci))), (2, .int (nI ci))]) (nL := 3) 0 ⟨by omega, Nat.zero_le _, Or.inl rfl⟩ hI (lv_sub hl [1, 0] rfl) ?_
        rintro ci ⟨hc31, htc, hc0⟩ ih33 H locs ls hI hl
        have hI : mI k ad N g (mA ad N s.heap.size) s H locs := hI
        have hl : lv_has ls 3 [(1, .int (nI (q0 - tcn ci))), (2, .int (nI ci))] := hl
        refine lv_iload_n hx hb dX4_codeOf_33 rfl (lv_at hl 0 rfl) ?_
        refine m_zleN (tgt := 58) hx hb (by omega) dX4_codeOf_34 (by decide) (fun c_34 => ?_) (fun c_34 => ?_)
        · refine lv_iload_n hx hb dX4_codeOf_58 rfl (lv_at hl 1 rfl) ?_
          have hcc : ci = cd q0 := by
            rcases hc0 with h | h
            · rw [h] at c_34 htc; have : tcn 0 = 0 := rfl; omega
            · exact tcn_cd q0 hq26 hq1 ci hc31 (by omega) h
          exact m_iret hx hb hr hlocks hI (⟨by rw [hcdq, ← hcc], rfl⟩) dX4_codeOf_59
        · have hc30 := tcn_lt ci hc31 (by omega)
          refine lv_iinc (v := nI (ci + 1)) (lv' := [(2, .int (nI (ci + 1))), (1, .int (nI (q0 - tcn ci)))]) hx hb dX4_codeOf_37 hl (k := 1) rfl (nI_add ci 1) (by decide) rfl (fun ls hl => ?_)
          refine lv_iload_n hx hb dX4_codeOf_40 rfl (lv_at hl 1 rfl) ?_
          refine lv_iload_n hx hb dX4_codeOf_41 rfl (lv_at hl 0 rfl) ?_
          refine m_callSi (As := [.int (nI (ci + 1))]) (rest := [.int (nI (q0 - tcn ci))]) ⟨hx, hb, hml, hown, hts⟩ hE hI (c_X4_isType k l ad N g _ (ci + 1) (by omega)) (va_cwS 1 hts gX4_codeOf_X4_isType rfl rfl rfl (by decide +kernel) ⟨Nat.le_of_ble_eq_true rfl, Nat.le_of_ble_eq_true rfl⟩) rfl hl.1 rfl (Nat.le_of_ble_eq_true rfl) dX4_codeOf_42 ⟨Nat.le_of_ble_eq_true rfl, Nat.le_of_ble_eq_true rfl⟩ (m_deti (fun H locs hI => ?_))
          refine m_zeqB (tgt := 52) hx hb dX4_codeOf_45 (by decide) (fun c_45 => ?_) (fun c_45 => ?_)
          · refine lv_iconst (v := nI 0) hx hb dX4_codeOf_52 (by decide) ?_
            refine m_isubN hx hb (by omega) dX4_codeOf_53 ?_
            refine lv_istore_n (lv' := [(1, .int (nI ((q0 - tcn ci) - 0))), (2, .int (nI (ci + 1)))]) hx hb dX4_codeOf_54 rfl hl (by decide) rfl (fun ls hl => ?_)
            have htn : tcn (ci + 1) = tcn ci := by show (if dep (ci + 1) then tcn ci + 1 else tcn ci) = _; rw [c_45] <;> rfl
            have hl : lv_has ls 3 [(1, .int (nI (q0 - tcn (ci + 1)))), (2, .int (nI (ci + 1)))] := by rw [show q0 - tcn (ci + 1) = (q0 - tcn ci) - 0 from by rw [htn]; omega]; exact hl
            refine lv_goto (tgt := 33) hx hb dX4_codeOf_55 (by decide) ?_
            exact ih33 (ci + 1) ⟨by omega, by omega, Or.inr (by show tcn ci < q0; omega)⟩ (show 31 - (ci + 1) < 31 - ci by omega) _ _ _ hI (lv_sub hl [0, 1] rfl)
          · refine lv_iconst (v := nI 1) hx hb dX4_codeOf_48 (by decide) ?_
            refine lv_goto (tgt := 53) hx hb dX4_codeOf_49 (by decide) ?_
            refine m_isubN hx hb (by omega) dX4_codeOf_53 ?_
            refine lv_istore_n (lv' := [(1, .int (nI ((q0 - tcn ci) - 1))), (2, .int (nI (ci + 1)))]) hx hb dX4_codeOf_54 rfl hl (by decide) rfl (fun ls hl => ?_)
            have htn : tcn (ci + 1) = tcn ci + 1 := by show (if dep (ci + 1) then tcn ci + 1 else tcn ci) = _; rw [c_45] <;> rfl
            have hl : lv_has ls 3 [(1, .int (nI (q0 - tcn (ci + 1)))), (2, .int (nI (ci + 1)))] := by rw [show q0 - tcn (ci + 1) = (q0 - tcn ci) - 1 from by rw [htn]; omega]; exact hl
            refine lv_goto (tgt := 33) hx hb dX4_codeOf_55 (by decide) ?_
            exact ih33 (ci + 1) ⟨by omega, by omega, Or.inr (by show tcn ci < q0; omega)⟩ (show 31 - (ci + 1) < 31 - ci by omega) _ _ _ hI (lv_sub hl [0, 1] rfl)
    · refine lv_iconst (v := nI 2) hx hb dX4_codeOf_14 (by decide) ?_
      exact m_iret hx hb hr hlocks hI (⟨by rw [c_11]; rfl, rfl⟩) dX4_codeOf_15
  · refine lv_iconst (v := nI 4) hx hb dX4_codeOf_6 (by decide) ?_
    exact m_iret hx hb hr hlocks hI (⟨by rw [c_3]; rfl, rfl⟩) dX4_codeOf_7
set_option maxHeartbeats 4000000 in
set_option maxRecDepth 100000 in
theorem c_X4_characterOf (k : mC) (l : Launch) (ad : Nat → Nat) (N : Nat) (g : Nat → va_E) (sz : Nat) (x : Nat) (b : Bool) (hx32 : x < 32) : mCi k l yX4_characterOf wsX4_characterOf { frames := 1, cells := 0, slots := 0, locals := 20 } ad N g sz [.int (nI x), .int (bI b)] (fun r g1 => r = nI (chF x b) ∧ g1 = g) := by
  refine mOf (Qc := fun z9 => va_Qi (fun r g1 => r = nI (chF x b) ∧ g1 = g) (mB k ad N) (mA ad N z9)) (cc := cX4_characterOf) (maxL := 4) (ret := (some .int)) (by decide) rfl (Nat.le_of_ble_eq_true rfl) ?_
  intro p e s m below meth c hx hb hr hts hown hlocks hml hin hE hI ls hl
  have hl : lv_has ls 4 [(0, .int (nI x)), (1, .int (bI b))] := hl
  refine lv_iload_n hx hb dX4_characterOf_0 rfl (lv_at hl 0 rfl) ?_
  refine lv_iconst (v := nI 4) hx hb dX4_characterOf_1 (by decide) ?_
  refine m_cneN (tgt := 8) hx hb (by omega) (by omega) dX4_characterOf_2 (by decide) (fun c_2 => ?_) (fun c_2 => ?_)
  · refine lv_iload_n hx hb dX4_characterOf_8 rfl (lv_at hl 0 rfl) ?_
    refine lv_iconst (v := nI 2) hx hb dX4_characterOf_9 (by decide) ?_
    refine m_cneN (tgt := 16) hx hb (by omega) (by omega) dX4_characterOf_10 (by decide) (fun c_10 => ?_) (fun c_10 => ?_)
    · refine lv_iload_n hx hb dX4_characterOf_16 rfl (lv_at hl 0 rfl) ?_
      refine m_callSi (As := [.int (nI x)]) (rest := []) ⟨hx, hb, hml, hown, hts⟩ hE hI (c_X4_isType k l ad N g _ x (by omega)) (va_cwS 1 hts gX4_characterOf_X4_isType rfl rfl rfl (by decide +kernel) ⟨Nat.le_of_ble_eq_true rfl, Nat.le_of_ble_eq_true rfl⟩) rfl hl.1 rfl (Nat.le_of_ble_eq_true rfl) dX4_characterOf_17 ⟨Nat.le_of_ble_eq_true rfl, Nat.le_of_ble_eq_true rfl⟩ (m_deti (fun H locs hI => ?_))
      refine m_zneB (tgt := 25) hx hb dX4_characterOf_20 (by decide) (fun c_20 => ?_) (fun c_20 => ?_)
      · refine lv_iconst (v := nI 0) hx hb dX4_characterOf_25 (by decide) ?_
        refine lv_istore_n (lv' := [(2, .int (nI 0)), (0, .int (nI x)), (1, .int (bI b))]) hx hb dX4_characterOf_26 rfl hl (by decide) rfl (fun ls hl => ?_)
        refine lv_iconst (v := nI 1) hx hb dX4_characterOf_27 (by decide) ?_
        refine lv_istore_n (lv' := [(3, .int (nI 1)), (2, .int (nI 0)), (0, .int (nI x)), (1, .int (bI b))]) hx hb dX4_characterOf_28 rfl hl (by decide) rfl (fun ls hl => ?_)
        refine m_loop (σ := Nat) (fun ki => ki ≤ x) (fun ki => x - ki) (fun ki => g) (fun ki => [(0, .int (nI x)), (1, .int (bI b)), (2, .int (nI (tcn ki))), (3, .int (nI (ki + 1)))]) (nL := 4) 0 (Nat.zero_le _) hI (lv_sub hl [2, 3, 1, 0] rfl) ?_
        rintro ki hki ih29 H locs ls hI hl
        have hI : mI k ad N g (mA ad N s.heap.size) s H locs := hI
        have hl : lv_has ls 4 [(0, .int (nI x)), (1, .int (bI b)), (2, .int (nI (tcn ki))), (3, .int (nI (ki + 1)))] := hl
        have htl := tcn_le ki (by omega)
        refine lv_iload_n hx hb dX4_characterOf_29 rfl (lv_at hl 3 rfl) ?_
        refine lv_iload_n hx hb dX4_characterOf_30 rfl (lv_at hl 0 rfl) ?_
        refine m_cgtN (tgt := 55) hx hb (by omega) (by omega) dX4_characterOf_31 (by decide) (fun c_31 => ?_) (fun c_31 => ?_)
        · refine lv_iload_n hx hb dX4_characterOf_55 rfl (lv_at hl 1 rfl) ?_
          refine m_zeqB (tgt := 66) hx hb dX4_characterOf_56 (by decide) (fun c_56 => ?_) (fun c_56 => ?_)
          · refine lv_iload_n hx hb dX4_characterOf_66 rfl (lv_at hl 2 rfl) ?_
            have hkx : ki = x := by omega
            exact m_iret hx hb hr hlocks hI (⟨by rw [chF_dep hx32 c_20, c_56, hkx] <;> rfl, rfl⟩) dX4_characterOf_67
          · refine lv_iload_n hx hb dX4_characterOf_59 rfl (lv_at hl 2 rfl) ?_
            refine lv_bipush (v := nI 26) hx hb dX4_characterOf_60 (by decide) ?_
            refine m_iaddN hx hb dX4_characterOf_62 ?_
            refine lv_goto (tgt := 67) hx hb dX4_characterOf_63 (by decide) ?_
            have hkx : ki = x := by omega
            exact m_iret hx hb hr hlocks hI (⟨by rw [chF_dep hx32 c_20, c_56, hkx] <;> rfl, rfl⟩) dX4_characterOf_67
        · refine lv_iload_n hx hb dX4_characterOf_34 rfl (lv_at hl 2 rfl) ?_
          refine lv_iload_n hx hb dX4_characterOf_35 rfl (lv_at hl 3 rfl) ?_
          refine m_callSi (As := [.int (nI (ki + 1))]) (rest := [.int (nI (tcn ki))]) ⟨hx, hb, hml, hown, hts⟩ hE hI (c_X4_isType k l ad N g _ (ki + 1) (by omega)) (va_cwS 1 hts gX4_characterOf_X4_isType rfl rfl rfl (by decide +kernel) ⟨Nat.le_of_ble_eq_true rfl, Nat.le_of_ble_eq_true rfl⟩) rfl hl.1 rfl (Nat.le_of_ble_eq_true rfl) dX4_characterOf_36 ⟨Nat.le_of_ble_eq_true rfl, Nat.le_of_ble_eq_true rfl⟩ (m_deti (fun H locs hI => ?_))
          refine m_zeqB (tgt := 46) hx hb dX4_characterOf_39 (by decide) (fun c_39 => ?_) (fun c_39 => ?_)
          · refine lv_iconst (v := nI 0) hx hb dX4_characterOf_46 (by decide) ?_
            refine m_iaddN hx hb dX4_characterOf_47 ?_
            refine lv_istore_n (lv' := [(2, .int (nI ((tcn ki) + 0))), (0, .int (nI x)), (1, .int (bI b)), (3, .int (nI (ki + 1)))]) hx hb dX4_characterOf_48 rfl hl (by decide) rfl (fun ls hl => ?_)
            have htn : tcn (ki + 1) = tcn ki := by show (if dep (ki + 1) then tcn ki + 1 else tcn ki) = _; rw [c_39] <;> rfl
            have hl : lv_has ls 4 [(2, .int (nI (tcn (ki + 1)))), (0, .int (nI x)), (1, .int (bI b)), (3, .int (nI (ki + 1)))] := by rw [htn]; exact hl
            refine lv_iinc (v := nI ((ki + 1) + 1)) (lv' := [(3, .int (nI ((ki + 1) + 1))), (2, .int (nI (tcn (ki + 1)))), (0, .int (nI x)), (1, .int (bI b))]) hx hb dX4_characterOf_49 hl (k := 3) rfl (nI_add (ki + 1) 1) (by decide) rfl (fun ls hl => ?_)
            refine lv_goto (tgt := 29) hx hb dX4_characterOf_52 (by decide) ?_
            exact ih29 (ki + 1) (show ki + 1 ≤ x by omega) (show x - (ki + 1) < x - ki by omega) _ _ _ hI (lv_sub hl [2, 3, 1, 0] rfl)
          · refine lv_iconst (v := nI 1) hx hb dX4_characterOf_42 (by decide) ?_
            refine lv_goto (tgt := 47) hx hb dX4_characterOf_43 (by decide) ?_
            refine m_iaddN hx hb dX4_characterOf_47 ?_
            refine lv_istore_n (lv' := [(2, .int (nI ((tcn ki) + 1))), (0, .int (nI x)), (1, .int (bI b)), (3, .int (nI (ki + 1)))]) hx hb dX4_characterOf_48 rfl hl (by decide) rfl (fun ls hl => ?_)
            have htn : tcn (ki + 1) = tcn ki + 1 := by show (if dep (ki + 1) then tcn ki + 1 else tcn ki) = _; rw [c_39] <;> rfl
            have hl : lv_has ls 4 [(2, .int (nI (tcn (ki + 1)))), (0, .int (nI x)), (1, .int (bI b)), (3, .int (nI (ki + 1)))] := by rw [htn]; exact hl
            refine lv_iinc (v := nI ((ki + 1) + 1)) (lv' := [(3, .int (nI ((ki + 1) + 1))), (2, .int (nI (tcn (ki + 1)))), (0, .int (nI x)), (1, .int (bI b))]) hx hb dX4_characterOf_49 hl (k := 3) rfl (nI_add (ki + 1) 1) (by decide) rfl (fun ls hl => ?_)
            refine lv_goto (tgt := 29) hx hb dX4_characterOf_52 (by decide) ?_
            exact ih29 (ki + 1) (show ki + 1 ≤ x by omega) (show x - (ki + 1) < x - ki by omega) _ _ _ hI (lv_sub hl [2, 3, 1, 0] rfl)
      · refine lv_iconst (v := nI 0) hx hb dX4_characterOf_23 (by decide) ?_
        exact m_iret hx hb hr hlocks hI (⟨by rw [chF_not x hx32 c_20 c_2 c_10], rfl⟩) dX4_characterOf_24
    · refine lv_bipush (v := nI 54) hx hb dX4_characterOf_13 (by decide) ?_
      exact m_iret hx hb hr hlocks hI (⟨by rw [c_10, chF_2], rfl⟩) dX4_characterOf_15
  · refine lv_bipush (v := nI 53) hx hb dX4_characterOf_5 (by decide) ?_
    exact m_iret hx hb hr hlocks hI (⟨by rw [c_2, chF_4], rfl⟩) dX4_characterOf_7
set_option maxHeartbeats 4000000 in
set_option maxRecDepth 100000 in
theorem c_X4_size (k : mC) (l : Launch) (ad : Nat → Nat) (N : Nat) (g : Nat → va_E) (sz : Nat) (x : Nat) (hx32 : x < 32) : mCi k l yX4_size wsX4_size { frames := 0, cells := 0, slots := 0, locals := 0 } ad N g sz [.int (nI x)] (fun r g1 => r = nI (pc5 x) ∧ g1 = g) := by
  refine mOf (Qc := fun z9 => va_Qi (fun r g1 => r = nI (pc5 x) ∧ g1 = g) (mB k ad N) (mA ad N z9)) (cc := cX4_size) (maxL := 3) (ret := (some .int)) (by decide) rfl (Nat.le_of_ble_eq_true rfl) ?_
  intro p e s m below meth c hx hb hr hts hown hlocks hml hin hE hI ls hl
  have hl : lv_has ls 3 [(0, .int (nI x))] := hl
  refine lv_iconst (v := nI 0) hx hb dX4_size_0 (by decide) ?_
  refine lv_istore_n (lv' := [(1, .int (nI 0)), (0, .int (nI x))]) hx hb dX4_size_1 rfl hl (by decide) rfl (fun ls hl => ?_)
  refine lv_iconst (v := nI 0) hx hb dX4_size_2 (by decide) ?_
  refine lv_istore_n (lv' := [(2, .int (nI 0)), (1, .int (nI 0)), (0, .int (nI x))]) hx hb dX4_size_3 rfl hl (by decide) rfl (fun ls hl => ?_)
  refine m_loop (σ := Nat) (fun ki => ki ≤ 5) (fun ki => 5 - ki) (fun ki => g) (fun ki => [(0, .int (nI x)), (1, .int (nI (pcn x ki))), (2, .int (nI ki))]) (nL := 3) 0 (Nat.zero_le _) hI (lv_sub hl [2, 1, 0] rfl) ?_
  rintro ki hki ih4 H locs ls hI hl
  have hI : mI k ad N g (mA ad N s.heap.size) s H locs := hI
  have hl : lv_has ls 3 [(0, .int (nI x)), (1, .int (nI (pcn x ki))), (2, .int (nI ki))] := hl
  refine lv_iload_n hx hb dX4_size_4 rfl (lv_at hl 2 rfl) ?_
  refine lv_iconst (v := nI 5) hx hb dX4_size_5 (by decide) ?_
  refine m_cgeN (tgt := 23) hx hb (by omega) (by omega) dX4_size_6 (by decide) (fun c_6 => ?_) (fun c_6 => ?_)
  · refine lv_iload_n hx hb dX4_size_23 rfl (lv_at hl 1 rfl) ?_
    exact m_iret hx hb hr hlocks hI (⟨by rw [← pcn_5 x hx32, show ki = 5 by omega], rfl⟩) dX4_size_24
  · refine lv_iload_n hx hb dX4_size_9 rfl (lv_at hl 1 rfl) ?_
    refine lv_iload_n hx hb dX4_size_10 rfl (lv_at hl 0 rfl) ?_
    refine lv_iload_n hx hb dX4_size_11 rfl (lv_at hl 2 rfl) ?_
    refine lv_ishr hx hb dX4_size_12 ?_
    refine lv_iconst (v := nI 1) hx hb dX4_size_13 (by decide) ?_
    refine lv_iand hx hb dX4_size_14 ?_
    refine m_top (show ((nI x) >>> ((nI ki) &&& 31)) &&& (nI 1) = nI (x / 2 ^ ki % 2) from bit5 x hx32 ki (by omega)) ?_
    refine m_iaddN hx hb dX4_size_15 ?_
    refine lv_istore_n (lv' := [(1, .int (nI ((pcn x ki) + (x / 2 ^ ki % 2)))), (0, .int (nI x)), (2, .int (nI ki))]) hx hb dX4_size_16 rfl hl (by decide) rfl (fun ls hl => ?_)
    refine lv_iinc (v := nI (ki + 1)) (lv' := [(2, .int (nI (ki + 1))), (1, .int (nI ((pcn x ki) + (x / 2 ^ ki % 2)))), (0, .int (nI x))]) hx hb dX4_size_17 hl (k := 2) rfl (nI_add ki 1) (by decide) rfl (fun ls hl => ?_)
    refine lv_goto (tgt := 4) hx hb dX4_size_20 (by decide) ?_
    exact ih4 (ki + 1) (show ki + 1 ≤ 5 by omega) (show 5 - (ki + 1) < 5 - ki by omega) _ _ _ hI (lv_sub hl [2, 1, 0] rfl)
