/-- a code that prints by the shift -/
def dep (c : Nat) : Bool := decide (chL c ≠ 0) && decide (chL c ≤ 26)
/-- the character of a code, by the shift -/
def chF (c : Nat) (b : Bool) : Nat := if b && dep c then chL c + 26 else chL c
theorem chL_le : ∀ c, c < 32 → chL c ≤ 54 := by decide +kernel
theorem chF_le : ∀ c, c < 32 → ∀ b, chF c b ≤ 54 := by decide +kernel
theorem cd_lt : ∀ x, x < 55 → cd x < 32 := by decide +kernel
/-- a character -/
def inC (x : Int32) : Bool := decide (1 ≤ x) && decide (x ≤ 54)
theorem inC_ex {x : Int32} (h : inC x = true) : ∃ j : Nat, 1 ≤ j ∧ j ≤ 54 ∧ x = nI j := by
  simp only [inC, Bool.and_eq_true, decide_eq_true_eq] at h
  have h1 := h.1; have h2 := h.2
  rw [Int32.le_iff_toInt_le] at h1 h2
  have e1 : (1 : Int32).toInt = 1 := by decide
  have e2 : (54 : Int32).toInt = 54 := by decide
  obtain ⟨j, hj, rfl⟩ := nI_of (x := x) (fun q => by rw [Int32.lt_iff_toInt_lt] at q; have e0 : (0 : Int32).toInt = 0 := by decide
                                                     omega)
  rw [nI_toInt hj] at h1 h2
  exact ⟨j, by omega, by omega, rfl⟩
def isSh (c : Nat) : Bool := decide (c = 31) || decide (c = 27)
/-- a code that shifts to letters -/
def stl (uns : Bool) (c : Nat) : Bool := decide (c = 31) || (decide (c = 2) || (uns && decide (c = 4)))
/-- the shift behind a code -/
def fb (uns : Bool) (c : Nat) (b : Bool) : Bool := decide (c = 27) || (b && !stl uns c)
/-- the shift of the tape ahead of a place -/
def fa (uns : Bool) (T : Nat → Nat) : Nat → Bool
  | 0 => false
  | n + 1 => fb uns (T n) (fa uns T n)
/-- whether a letter or figure comes among m codes from a place on, ahead of the next that sets the shift -/
def sv (uns : Bool) (T : Nat → Nat) : Nat → Nat → Bool
  | 0, _ => false
  | m + 1, p => if dep (T p) then true else if decide (T p = 27) || stl uns (T p) then false else sv uns T m (p + 1)
/-- whether the shift at a place does nothing -/
def idB (uns : Bool) (T : Nat → Nat) (n p : Nat) : Bool := isSh (T p) && (decide (fb uns (T p) (fa uns T p) = fa uns T p) || !sv uns T (n - (p + 1)) (p + 1))
def idl (uns : Bool) (T : Nat → Nat) (n : Nat) : Nat → Nat
  | 0 => 0
  | p + 1 => if idB uns T n p then idl uns T n p + 1 else idl uns T n p
theorem idl_le (uns : Bool) (T : Nat → Nat) (n p : Nat) : idl uns T n p ≤ p := by
  induction p with
  | zero => exact Nat.le_refl _
  | succ p ih => simp only [idl]; split <;> omega
/-- the page's ways: a new line, no room, a character -/
def pOb {P : Type} (nl : P → P) (full : P → Bool) (add : P → Nat → P) (ch : Nat) (p : P) : P := if ch = 54 then nl p else if ch = 0 then p else if full p then p else add p ch
def lOb {P : Type} (full : P → Bool) (ch : Nat) (p : P) (lost : Int32) : Int32 := if ch = 54 then lost else if ch = 0 then lost else if full p then lost + 1 else lost
abbrev YT (P : Type) : Type := Nat × Int32 × Int32 × Int32 × Bool × P
/-- a code is printed: what came, misread, lost, bells, the shift, the page -/
def yOb {P : Type} (nl : P → P) (full : P → Bool) (add : P → Nat → P) (uns : Bool) (c : Nat) (y : YT P) : YT P :=
  (y.1, y.2.1, lOb full (chF c y.2.2.2.2.1) y.2.2.2.2.2 y.2.2.1, if c = 8 then y.2.2.2.1 + 1 else y.2.2.2.1, fb uns c y.2.2.2.2.1, pOb nl full add (chF c y.2.2.2.2.1) y.2.2.2.2.2)
def rdY (play : Nat) (lat : Nat → Int32) (gar : Nat → Nat) (came c : Nat) : Nat := rdF play (lat (came % 16)) (gar (came % 16)) c
/-- a code comes -/
def yIn {P : Type} (nl : P → P) (full : P → Bool) (add : P → Nat → P) (uns : Bool) (play : Nat) (lat : Nat → Int32) (gar : Nat → Nat) (c : Nat) (y : YT P) : YT P :=
  yOb nl full add uns (rdY play lat gar y.1 c) (y.1 + 1, if rdY play lat gar y.1 c = c then y.2.1 else y.2.1 + 1, y.2.2)
/-- codes of the tape come, from the place rd on -/
def yRun {P : Type} (nl : P → P) (full : P → Bool) (add : P → Nat → P) (uns : Bool) (play : Nat) (lat : Nat → Int32) (gar : Nat → Nat) (T : Nat → Nat) (rd : Nat) (y : YT P) : Nat → YT P
  | 0 => y
  | m + 1 => yIn nl full add uns play lat gar (T (rd + m)) (yRun nl full add uns play lat gar T rd y m)
theorem yRun_1 {P : Type} {nl : P → P} {full : P → Bool} {add : P → Nat → P} {uns : Bool} {play : Nat} {lat : Nat → Int32} {gar : Nat → Nat} {T : Nat → Nat} {rd : Nat} {y : YT P} (m : Nat) : (yRun nl full add uns play lat gar T rd y m).1 = y.1 + m := by
  induction m with
  | zero => rfl
  | succ m ih => simp only [yRun, yIn, yOb, ih]; omega
/-- how many of m codes would be read as another -/
def wrN (play : Nat) (lat : Nat → Int32) (gar : Nat → Nat) (T : Nat → Nat) (rd came : Nat) : Nat → Nat
  | 0 => 0
  | m + 1 => if rdY play lat gar (came + m) (T (rd + m)) = T (rd + m) then wrN play lat gar T rd came m else wrN play lat gar T rd came m + 1
theorem wrN_le (play : Nat) (lat : Nat → Int32) (gar : Nat → Nat) (T : Nat → Nat) (rd came m : Nat) : wrN play lat gar T rd came m ≤ m := by
  induction m with
  | zero => exact Nat.le_refl _
  | succ m ih => simp only [wrN]; split <;> omega
/-- the page of the class: the first slot, the lines, the sizes by slot, the characters by slot -/
abbrev PC : Type := Nat × Nat × (Nat → Nat) × (Nat → Nat → Nat)
def cNl (p : PC) : PC := if p.2.1 < 20 then (p.1, p.2.1 + 1, va_up p.2.2.1 (slt p.1 p.2.1) 0, p.2.2.2) else (slt p.1 1, p.2.1, va_up p.2.2.1 p.1 0, p.2.2.2)
def cFull (p : PC) : Bool := decide (p.2.2.1 (slt p.1 (p.2.1 - 1)) = 40)
def cAdd (p : PC) (ch : Nat) : PC := (p.1, p.2.1, va_up p.2.2.1 (slt p.1 (p.2.1 - 1)) (p.2.2.1 (slt p.1 (p.2.1 - 1)) + 1), va_up p.2.2.2 (slt p.1 (p.2.1 - 1)) (va_up (p.2.2.2 (slt p.1 (p.2.1 - 1))) (p.2.2.1 (slt p.1 (p.2.1 - 1))) ch))
def cWf (p : PC) : Prop := p.1 < 20 ∧ 0 < p.2.1 ∧ p.2.1 ≤ 20
theorem cWf_nl {p : PC} (h : cWf p) : cWf (cNl p) := by
  unfold cNl
  have h1 := slt_lt p.1 1
  obtain ⟨h2, h3, h4⟩ := h
  split
  · exact ⟨h2, by show 0 < p.2.1 + 1; omega, by show p.2.1 + 1 ≤ 20; omega⟩
  · exact ⟨h1, h3, h4⟩
theorem cWf_ob {p : PC} {ch : Nat} (h : cWf p) : cWf (pOb cNl cFull cAdd ch p) := by
  unfold pOb
  split
  · exact cWf_nl h
  · split
    · exact h
    · split
      · exact h
      · exact h
/-- the class's object and all that belongs to it -/
abbrev CR (k : mC) (ad : Nat → Nat) (g : Nat → va_E) (uns : Bool) (play rd n : Nat) (lat : Nat → Int32) (gar T : Nat → Nat) (y : YT PC) (r : Nat → Option Nat) : Prop :=
  g 0 = .inr (3, [.ref (ad 1), .ref (ad 6), .ref (ad 48), .int (nI rd), .int (bI y.2.2.2.2.1), .int (bI uns), .int (nI y.1), .int y.2.1, .int y.2.2.1, .int y.2.2.2.1]) ∧ CWi k ad g play lat gar ∧ CSh k ad g y.2.2.2.2.2.1 y.2.2.2.2.2.2.1 y.2.2.2.2.2.2.2.1 y.2.2.2.2.2.2.2.2 r ∧ CRow k ad g 48 120 n (fun j => nI (T j))
/-- the numbers are in their bounds -/
def CW (play rd n : Nat) (lat : Nat → Int32) (gar T : Nat → Nat) : Prop := play ≤ 9 ∧ rd ≤ n ∧ n ≤ 120 ∧ (∀ j, j < 16 → gar j < 32) ∧ (∀ j, T j < 32) ∧ ∀ j, -9 ≤ lat j ∧ lat j ≤ 9
theorem inC_lo {x : Int32} (h : x < nI 1) : inC x = false := by
  simp only [inC, Bool.and_eq_false_iff, decide_eq_false_iff_not]
  left; intro q; rw [Int32.le_iff_toInt_le] at q; rw [Int32.lt_iff_toInt_lt] at h
  have e1 : (nI 1).toInt = 1 := by decide
  have e2 : (1 : Int32).toInt = 1 := by decide
  omega
theorem inC_hi {x : Int32} (h : nI 54 < x) : inC x = false := by
  simp only [inC, Bool.and_eq_false_iff, decide_eq_false_iff_not]
  right; intro q; rw [Int32.le_iff_toInt_le] at q; rw [Int32.lt_iff_toInt_lt] at h
  have e1 : (nI 54).toInt = 54 := by decide
  have e2 : (54 : Int32).toInt = 54 := by decide
  omega
theorem inC_yes {x : Int32} (h : ¬ x < nI 1) (h2 : ¬ nI 54 < x) : inC x = true := by
  simp only [inC, Bool.and_eq_true, decide_eq_true_eq]
  rw [Int32.lt_iff_toInt_lt] at h h2
  have e1 : (nI 1).toInt = 1 := by decide
  have e2 : (1 : Int32).toInt = 1 := by decide
  have e3 : (nI 54).toInt = 54 := by decide
  have e4 : (54 : Int32).toInt = 54 := by decide
  constructor <;> rw [Int32.le_iff_toInt_le] <;> omega
theorem inN_lt {x : Int32} {n : Nat} (h : ¬ x < 0) (h2 : x < nI n) : inN x n = true := inN_yes h (fun q => by rw [Int32.lt_iff_toInt_lt] at h2; rw [Int32.le_iff_toInt_le] at q; omega)
theorem inN_nlt {x : Int32} {n : Nat} (h : ¬ x < nI n) : inN x n = false := inN_big (by rw [Int32.lt_iff_toInt_lt] at h; rw [Int32.le_iff_toInt_le]; omega)
theorem inN_le {x : Int32} {n : Nat} (h : ¬ x < 0) (h2 : x ≤ nI n) (hn : n < 2147483647) : inN x (n + 1) = true := by
  refine inN_lt h ?_
  rw [Int32.le_iff_toInt_le, nI_toInt (by omega)] at h2
  rw [Int32.lt_iff_toInt_lt, nI_toInt (by omega)]
  omega
theorem inN_nle {x : Int32} {n : Nat} (h2 : ¬ x ≤ nI n) (hn : n < 2147483647) : inN x (n + 1) = false := by
  refine inN_big ?_
  rw [Int32.le_iff_toInt_le, nI_toInt (by omega)] at h2
  rw [Int32.le_iff_toInt_le, nI_toInt (by omega)]
  omega
theorem inN_gt {x : Int32} {n : Nat} (h : nI n < x) (hn : n < 2147483647) : inN x (n + 1) = false := inN_nle (fun q => by rw [Int32.lt_iff_toInt_lt] at h; rw [Int32.le_iff_toInt_le] at q; omega) hn
theorem inN_ngt {x : Int32} {n : Nat} (h1 : ¬ x < 0) (h : ¬ nI n < x) (hn : n < 2147483647) : inN x (n + 1) = true := inN_le h1 (by rw [Int32.lt_iff_toInt_lt] at h; rw [Int32.le_iff_toInt_le]; omega) hn
set_option maxHeartbeats 4000000 in
set_option maxRecDepth 100000 in
theorem c_X3_isCode (k : mC) (l : Launch) (ad : Nat → Nat) (N : Nat) (g : Nat → va_E) (sz : Nat) (x : Int32) : mCi k l yX3_isCode wsX3_isCode { frames := 0, cells := 0, slots := 0, locals := 0 } ad N g sz [.int x] (fun r g1 => r = bI (inN x 32) ∧ g1 = g) := by
  refine mOf (Qc := fun z9 => va_Qi (fun r g1 => r = bI (inN x 32) ∧ g1 = g) (mB k ad N) (mA ad N z9)) (cc := cX3_isCode) (maxL := 1) (ret := (some .boolean)) (by decide) rfl (Nat.le_of_ble_eq_true rfl) ?_
  intro p e s m below meth c hx hb hr hts hown hlocks hml hin hE hI ls hl
  have hl : lv_has ls 1 [(0, .int x)] := hl
  refine lv_iload_n hx hb dX3_isCode_0 rfl (lv_at hl 0 rfl) ?_
  refine lv_if_lt (tgt := 14) hx hb dX3_isCode_1 (by decide) (fun c_1 => ?_) (fun c_1 => ?_)
  · refine lv_iconst (v := nI 0) hx hb dX3_isCode_14 (by decide) ?_
    refine m_top (y := bI false) (by decide) ?_
    exact m_zret (v := false) hx hb hr hlocks hI (⟨by rw [inN_neg c_1], rfl⟩) dX3_isCode_15
  · refine lv_iload_n hx hb dX3_isCode_4 rfl (lv_at hl 0 rfl) ?_
    refine lv_bipush (v := nI 31) hx hb dX3_isCode_5 (by decide) ?_
    refine lv_icmp_gt (tgt := 14) hx hb dX3_isCode_7 (by decide) (fun c_7 => ?_) (fun c_7 => ?_)
    · refine lv_iconst (v := nI 0) hx hb dX3_isCode_14 (by decide) ?_
      refine m_top (y := bI false) (by decide) ?_
      exact m_zret (v := false) hx hb hr hlocks hI (⟨by rw [inN_gt (n := 31) c_7 (by omega)], rfl⟩) dX3_isCode_15
    · refine lv_iconst (v := nI 1) hx hb dX3_isCode_10 (by decide) ?_
      refine lv_goto (tgt := 15) hx hb dX3_isCode_11 (by decide) ?_
      refine m_top (y := bI true) (by decide) ?_
      exact m_zret (v := true) hx hb hr hlocks hI (⟨by rw [inN_ngt (n := 31) c_1 c_7 (by omega)], rfl⟩) dX3_isCode_15
set_option maxHeartbeats 4000000 in
set_option maxRecDepth 100000 in
theorem c_X3_isCharacter (k : mC) (l : Launch) (ad : Nat → Nat) (N : Nat) (g : Nat → va_E) (sz : Nat) (x : Int32) : mCi k l yX3_isCharacter wsX3_isCharacter { frames := 0, cells := 0, slots := 0, locals := 0 } ad N g sz [.int x] (fun r g1 => r = bI (inC x) ∧ g1 = g) := by
  refine mOf (Qc := fun z9 => va_Qi (fun r g1 => r = bI (inC x) ∧ g1 = g) (mB k ad N) (mA ad N z9)) (cc := cX3_isCharacter) (maxL := 1) (ret := (some .boolean)) (by decide) rfl (Nat.le_of_ble_eq_true rfl) ?_
  intro p e s m below meth c hx hb hr hts hown hlocks hml hin hE hI ls hl
  have hl : lv_has ls 1 [(0, .int x)] := hl
  refine lv_iload_n hx hb dX3_isCharacter_0 rfl (lv_at hl 0 rfl) ?_
  refine lv_iconst (v := nI 1) hx hb dX3_isCharacter_1 (by decide) ?_
  refine lv_icmp_lt (tgt := 15) hx hb dX3_isCharacter_2 (by decide) (fun c_2 => ?_) (fun c_2 => ?_)
  · refine lv_iconst (v := nI 0) hx hb dX3_isCharacter_15 (by decide) ?_
    refine m_top (y := bI false) (by decide) ?_
    exact m_zret (v := false) hx hb hr hlocks hI (⟨by rw [show inC x = false from inC_lo c_2], rfl⟩) dX3_isCharacter_16
  · refine lv_iload_n hx hb dX3_isCharacter_5 rfl (lv_at hl 0 rfl) ?_
    refine lv_bipush (v := nI 54) hx hb dX3_isCharacter_6 (by decide) ?_
    refine lv_icmp_gt (tgt := 15) hx hb dX3_isCharacter_8 (by decide) (fun c_8 => ?_) (fun c_8 => ?_)
    · refine lv_iconst (v := nI 0) hx hb dX3_isCharacter_15 (by decide) ?_
      refine m_top (y := bI false) (by decide) ?_
      exact m_zret (v := false) hx hb hr hlocks hI (⟨by rw [show inC x = false from inC_hi c_8], rfl⟩) dX3_isCharacter_16
    · refine lv_iconst (v := nI 1) hx hb dX3_isCharacter_11 (by decide) ?_
      refine lv_goto (tgt := 16) hx hb dX3_isCharacter_12 (by decide) ?_
      refine m_top (y := bI true) (by decide) ?_
      exact m_zret (v := true) hx hb hr hlocks hI (⟨by rw [show inC x = true from inC_yes c_2 c_8], rfl⟩) dX3_isCharacter_16
set_option maxHeartbeats 4000000 in
set_option maxRecDepth 100000 in
theorem c_X3_isFigure (k : mC) (l : Launch) (ad : Nat → Nat) (N : Nat) (g : Nat → va_E) (sz : Nat) (x : Nat) (hx54 : x ≤ 54) : mCi k l yX3_isFigure wsX3_isFigure { frames := 0, cells := 0, slots := 0, locals := 0 } ad N g sz [.int (nI x)] (fun r g1 => r = bI (decide (26 < x) && decide (x < 53)) ∧ g1 = g) := by
  refine mOf (Qc := fun z9 => va_Qi (fun r g1 => r = bI (decide (26 < x) && decide (x < 53)) ∧ g1 = g) (mB k ad N) (mA ad N z9)) (cc := cX3_isFigure) (maxL := 1) (ret := (some .boolean)) (by decide) rfl (Nat.le_of_ble_eq_true rfl) ?_
  intro p e s m below meth c hx hb hr hts hown hlocks hml hin hE hI ls hl
  have hl : lv_has ls 1 [(0, .int (nI x))] := hl
  refine lv_iload_n hx hb dX3_isFigure_0 rfl (lv_at hl 0 rfl) ?_
  refine lv_bipush (v := nI 26) hx hb dX3_isFigure_1 (by decide) ?_
  refine m_cleN (tgt := 16) hx hb (by omega) (by omega) dX3_isFigure_3 (by decide) (fun c_3 => ?_) (fun c_3 => ?_)
  · refine lv_iconst (v := nI 0) hx hb dX3_isFigure_16 (by decide) ?_
    refine m_top (y := bI false) (by decide) ?_
    exact m_zret (v := false) hx hb hr hlocks hI (⟨by rw [show decide (26 < x) = false from decide_eq_false (by omega)] <;> rfl, rfl⟩) dX3_isFigure_17
  · refine lv_iload_n hx hb dX3_isFigure_6 rfl (lv_at hl 0 rfl) ?_
    refine lv_bipush (v := nI 53) hx hb dX3_isFigure_7 (by decide) ?_
    refine m_cgeN (tgt := 16) hx hb (by omega) (by omega) dX3_isFigure_9 (by decide) (fun c_9 => ?_) (fun c_9 => ?_)
    · refine lv_iconst (v := nI 0) hx hb dX3_isFigure_16 (by decide) ?_
      refine m_top (y := bI false) (by decide) ?_
      exact m_zret (v := false) hx hb hr hlocks hI (⟨by rw [show decide (26 < x) = true from decide_eq_true (by omega), show decide (x < 53) = false from decide_eq_false (by omega)] <;> rfl, rfl⟩) dX3_isFigure_17
    · refine lv_iconst (v := nI 1) hx hb dX3_isFigure_12 (by decide) ?_
      refine lv_goto (tgt := 17) hx hb dX3_isFigure_13 (by decide) ?_
      refine m_top (y := bI true) (by decide) ?_
      exact m_zret (v := true) hx hb hr hlocks hI (⟨by rw [show decide (26 < x) = true from decide_eq_true (by omega), show decide (x < 53) = true from decide_eq_true (by omega)] <;> rfl, rfl⟩) dX3_isFigure_17
set_option maxHeartbeats 4000000 in
set_option maxRecDepth 100000 in
theorem c_X3_codeOf (k : mC) (l : Launch) (ad : Nat → Nat) (N : Nat) (g : Nat → va_E) (sz : Nat) (x : Nat) (hx54 : x ≤ 54) : mCi k l yX3_codeOf wsX3_codeOf { frames := 0, cells := 0, slots := 0, locals := 0 } ad N g sz [.int (nI x)] (fun r g1 => r = nI (cd x) ∧ g1 = g) := by
  refine mOf (Qc := fun z9 => va_Qi (fun r g1 => r = nI (cd x) ∧ g1 = g) (mB k ad N) (mA ad N z9)) (cc := cX3_codeOf) (maxL := 1) (ret := (some .int)) (by decide) rfl (Nat.le_of_ble_eq_true rfl) ?_
  intro p e s m below meth c hx hb hr hts hown hlocks hml hin hE hI ls hl
  have hl : lv_has ls 1 [(0, .int (nI x))] := hl
  refine lv_iload_n hx hb dX3_codeOf_0 rfl (lv_at hl 0 rfl) ?_
  refine m_zltN (tgt := 20) hx hb (by omega) dX3_codeOf_1 (by decide) ?_
  refine lv_iload_n hx hb dX3_codeOf_4 rfl (lv_at hl 0 rfl) ?_
  refine va_gets hx hb hE.1.2.1.1 hI.2 hown (hts (.fieldLink RX3 207 "TapePrinter" "CODES" "[I") (by decide +kernel)) (fun _ h => h) dX3_codeOf_5 ?_
  refine va_tlen hx hb hE.1.2.1.2 hI.2 (v := nI 55) rfl dX3_codeOf_8 ?_
  refine m_cgeN (tgt := 20) hx hb (by omega) (by omega) dX3_codeOf_9 (by decide) (fun c_9 => ?_) (fun c_9 => ?_)
  · exact absurd c_9 (by omega)
  · refine va_gets hx hb hE.1.2.1.1 hI.2 hown (hts (.fieldLink RX3 207 "TapePrinter" "CODES" "[I") (by decide +kernel)) (fun _ h => h) dX3_codeOf_12 ?_
    refine lv_iload_n hx hb dX3_codeOf_15 rfl (lv_at hl 0 rfl) ?_
    refine va_ti hx hb hE.1.2.1.2 hI.2 (vp_in_nI (n := x) (by omega) (by omega)) (v := .int (nI (cd x))) (by rw [nI_clamp (by omega)]) dX3_codeOf_16 ?_
    refine lv_goto (tgt := 21) hx hb dX3_codeOf_17 (by decide) ?_
    exact m_iret hx hb hr hlocks hI (⟨rfl, rfl⟩) dX3_codeOf_21
set_option maxHeartbeats 4000000 in
set_option maxRecDepth 100000 in
theorem c_X3_characterInLetters (k : mC) (l : Launch) (ad : Nat → Nat) (N : Nat) (g : Nat → va_E) (sz : Nat) (x : Nat) (hx32 : x < 32) : mCi k l yX3_characterInLetters wsX3_characterInLetters { frames := 0, cells := 0, slots := 0, locals := 0 } ad N g sz [.int (nI x)] (fun r g1 => r = nI (chL x) ∧ g1 = g) := by
  refine mOf (Qc := fun z9 => va_Qi (fun r g1 => r = nI (chL x) ∧ g1 = g) (mB k ad N) (mA ad N z9)) (cc := cX3_characterInLetters) (maxL := 1) (ret := (some .int)) (by decide) rfl (Nat.le_of_ble_eq_true rfl) ?_
  intro p e s m below meth c hx hb hr hts hown hlocks hml hin hE hI ls hl
  have hl : lv_has ls 1 [(0, .int (nI x))] := hl
  refine lv_iload_n hx hb dX3_characterInLetters_0 rfl (lv_at hl 0 rfl) ?_
  refine m_zltN (tgt := 20) hx hb (by omega) dX3_characterInLetters_1 (by decide) ?_
  refine lv_iload_n hx hb dX3_characterInLetters_4 rfl (lv_at hl 0 rfl) ?_
  refine va_gets hx hb hE.1.2.2.1.1 hI.2 hown (hts (.fieldLink RX3 214 "TapePrinter" "CHARACTERS" "[I") (by decide +kernel)) (fun _ h => h) dX3_characterInLetters_5 ?_
  refine va_tlen hx hb hE.1.2.2.1.2 hI.2 (v := nI 32) rfl dX3_characterInLetters_8 ?_
  refine m_cgeN (tgt := 20) hx hb (by omega) (by omega) dX3_characterInLetters_9 (by decide) (fun c_9 => ?_) (fun c_9 => ?_)
  · exact absurd c_9 (by omega)
  · refine va_gets hx hb hE.1.2.2.1.1 hI.2 hown (hts (.fieldLink RX3 214 "TapePrinter" "CHARACTERS" "[I") (by decide +kernel)) (fun _ h => h) dX3_characterInLetters_12 ?_
    refine lv_iload_n hx hb dX3_characterInLetters_15 rfl (lv_at hl 0 rfl) ?_
    refine va_ti hx hb hE.1.2.2.1.2 hI.2 (vp_in_nI (n := x) (by omega) (by omega)) (v := .int (nI (chL x))) (by rw [nI_clamp (by omega)]) dX3_characterInLetters_16 ?_
    refine lv_goto (tgt := 21) hx hb dX3_characterInLetters_17 (by decide) ?_
    exact m_iret hx hb hr hlocks hI (⟨rfl, rfl⟩) dX3_characterInLetters_21
set_option maxHeartbeats 4000000 in
set_option maxRecDepth 100000 in
theorem c_X3_dependsOnShift (k : mC) (l : Launch) (ad : Nat → Nat) (N : Nat) (g : Nat → va_E) (sz : Nat) (x : Nat) (hx32 : x < 32) : mCi k l yX3_dependsOnShift wsX3_dependsOnShift { frames := 1, cells := 0, slots := 0, locals := 20 } ad N g sz [.int (nI x)] (fun r g1 => r = bI (dep x) ∧ g1 = g) := by
  refine mOf (Qc := fun z9 => va_Qi (fun r g1 => r = bI (dep x) ∧ g1 = g) (mB k ad N) (mA ad N z9)) (cc := cX3_dependsOnShift) (maxL := 2) (ret := (some .boolean)) (by decide) rfl (Nat.le_of_ble_eq_true rfl) ?_
  intro p e s m below meth c hx hb hr hts hown hlocks hml hin hE hI ls hl
  have hl : lv_has ls 2 [(0, .int (nI x))] := hl
  have hch := chL_le x hx32
  refine lv_iload_n hx hb dX3_dependsOnShift_0 rfl (lv_at hl 0 rfl) ?_
  refine m_callSi (As := [.int (nI x)]) (rest := []) ⟨hx, hb, hml, hown, hts⟩ hE hI (c_X3_characterInLetters k l ad N g _ x (by omega)) (va_cwS 1 hts gX3_dependsOnShift_X3_characterInLetters rfl rfl rfl (by decide +kernel) ⟨Nat.le_of_ble_eq_true rfl, Nat.le_of_ble_eq_true rfl⟩) rfl hl.1 rfl (Nat.le_of_ble_eq_true rfl) dX3_dependsOnShift_1 ⟨Nat.le_of_ble_eq_true rfl, Nat.le_of_ble_eq_true rfl⟩ (m_deti (fun H locs hI => ?_))
  refine lv_istore_n (lv' := [(1, .int (nI (chL x))), (0, .int (nI x))]) hx hb dX3_dependsOnShift_4 rfl hl (by decide) rfl (fun ls hl => ?_)
  refine lv_iload_n hx hb dX3_dependsOnShift_5 rfl (lv_at hl 0 rfl) ?_
  refine m_zeqN (tgt := 19) hx hb (by omega) dX3_dependsOnShift_6 (by decide) (fun c_6 => ?_) (fun c_6 => ?_)
  · refine lv_iconst (v := nI 0) hx hb dX3_dependsOnShift_19 (by decide) ?_
    refine m_top (y := bI false) (by decide) ?_
    exact m_zret (v := false) hx hb hr hlocks hI (⟨by unfold dep; rw [c_6] <;> rfl, rfl⟩) dX3_dependsOnShift_20
  · refine lv_iload_n hx hb dX3_dependsOnShift_9 rfl (lv_at hl 0 rfl) ?_
    refine lv_bipush (v := nI 26) hx hb dX3_dependsOnShift_10 (by decide) ?_
    refine m_cgtN (tgt := 19) hx hb (by omega) (by omega) dX3_dependsOnShift_12 (by decide) (fun c_12 => ?_) (fun c_12 => ?_)
    · refine lv_iconst (v := nI 0) hx hb dX3_dependsOnShift_19 (by decide) ?_
      refine m_top (y := bI false) (by decide) ?_
      exact m_zret (v := false) hx hb hr hlocks hI (⟨by rw [show dep x = false from by unfold dep; rw [show decide (chL x ≤ 26) = false from decide_eq_false (by omega), Bool.and_false]] <;> rfl, rfl⟩) dX3_dependsOnShift_20
    · refine lv_iconst (v := nI 1) hx hb dX3_dependsOnShift_15 (by decide) ?_
      refine lv_goto (tgt := 20) hx hb dX3_dependsOnShift_16 (by decide) ?_
      refine m_top (y := bI true) (by decide) ?_
      exact m_zret (v := true) hx hb hr hlocks hI (⟨by rw [show dep x = true from by unfold dep; rw [show decide (chL x ≤ 26) = true from decide_eq_true (by omega), show decide (chL x ≠ 0) = true from decide_eq_true c_6] <;> rfl] <;> rfl, rfl⟩) dX3_dependsOnShift_20
set_option maxHeartbeats 4000000 in
set_option maxRecDepth 100000 in
theorem c_X3_characterOf (k : mC) (l : Launch) (ad : Nat → Nat) (N : Nat) (g : Nat → va_E) (sz : Nat) (x : Nat) (b : Bool) (hx32 : x < 32) : mCi k l yX3_characterOf wsX3_characterOf { frames := 2, cells := 0, slots := 0, locals := 41 } ad N g sz [.int (nI x), .int (bI b)] (fun r g1 => r = nI (chF x b) ∧ g1 = g) := by
  refine mOf (Qc := fun z9 => va_Qi (fun r g1 => r = nI (chF x b) ∧ g1 = g) (mB k ad N) (mA ad N z9)) (cc := cX3_characterOf) (maxL := 3) (ret := (some .int)) (by decide) rfl (Nat.le_of_ble_eq_true rfl) ?_
  intro p e s m below meth c hx hb hr hts hown hlocks hml hin hE hI ls hl
  have hl : lv_has ls 3 [(0, .int (nI x)), (1, .int (bI b))] := hl
  have hch := chL_le x hx32
  refine lv_iload_n hx hb dX3_characterOf_0 rfl (lv_at hl 0 rfl) ?_
  refine m_callSi (As := [.int (nI x)]) (rest := []) ⟨hx, hb, hml, hown, hts⟩ hE hI (c_X3_characterInLetters k l ad N g _ x (by omega)) (va_cwS 1 hts gX3_characterOf_X3_characterInLetters rfl rfl rfl (by decide +kernel) ⟨Nat.le_of_ble_eq_true rfl, Nat.le_of_ble_eq_true rfl⟩) rfl hl.1 rfl (Nat.le_of_ble_eq_true rfl) dX3_characterOf_1 ⟨Nat.le_of_ble_eq_true rfl, Nat.le_of_ble_eq_true rfl⟩ (m_deti (fun H locs hI => ?_))
  refine lv_istore_n (lv' := [(2, .int (nI (chL x))), (0, .int (nI x)), (1, .int (bI b))]) hx hb dX3_characterOf_4 rfl hl (by decide) rfl (fun ls hl => ?_)
  refine lv_iload_n hx hb dX3_characterOf_5 rfl (lv_at hl 2 rfl) ?_
  refine m_zeqB (tgt := 23) hx hb dX3_characterOf_6 (by decide) (fun c_6 => ?_) (fun c_6 => ?_)
  · refine lv_iload_n hx hb dX3_characterOf_23 rfl (lv_at hl 0 rfl) ?_
    exact m_iret hx hb hr hlocks hI (⟨by unfold chF; rw [c_6] <;> rfl, rfl⟩) dX3_characterOf_24
  · refine lv_iload_n hx hb dX3_characterOf_9 rfl (lv_at hl 1 rfl) ?_
    refine m_callSi (As := [.int (nI x)]) (rest := []) ⟨hx, hb, hml, hown, hts⟩ hE hI (c_X3_dependsOnShift k l ad N g _ x (by omega)) (va_cwS 1 hts gX3_characterOf_X3_dependsOnShift rfl rfl rfl (by decide +kernel) ⟨Nat.le_of_ble_eq_true rfl, Nat.le_of_ble_eq_true rfl⟩) rfl hl.1 rfl (Nat.le_of_ble_eq_true rfl) dX3_characterOf_10 ⟨Nat.le_of_ble_eq_true rfl, Nat.le_of_ble_eq_true rfl⟩ (m_deti (fun H locs hI => ?_))
    refine m_zeqB (tgt := 23) hx hb dX3_characterOf_13 (by decide) (fun c_13 => ?_) (fun c_13 => ?_)
    · refine lv_iload_n hx hb dX3_characterOf_23 rfl (lv_at hl 0 rfl) ?_
      exact m_iret hx hb hr hlocks hI (⟨by unfold chF; rw [c_13, Bool.and_false] <;> rfl, rfl⟩) dX3_characterOf_24
    · refine lv_iload_n hx hb dX3_characterOf_16 rfl (lv_at hl 0 rfl) ?_
      refine lv_bipush (v := nI 26) hx hb dX3_characterOf_17 (by decide) ?_
      refine m_iaddN hx hb dX3_characterOf_19 ?_
      refine lv_goto (tgt := 24) hx hb dX3_characterOf_20 (by decide) ?_
      exact m_iret hx hb hr hlocks hI (⟨by unfold chF; rw [c_13, c_6] <;> rfl, rfl⟩) dX3_characterOf_24
set_option maxHeartbeats 4000000 in
set_option maxRecDepth 100000 in
theorem c_X3_isShift (k : mC) (l : Launch) (ad : Nat → Nat) (N : Nat) (g : Nat → va_E) (sz : Nat) (x : Nat) (hx32 : x < 32) : mCi k l yX3_isShift wsX3_isShift { frames := 0, cells := 0, slots := 0, locals := 0 } ad N g sz [.int (nI x)] (fun r g1 => r = bI (isSh x) ∧ g1 = g) := by
  refine mOf (Qc := fun z9 => va_Qi (fun r g1 => r = bI (isSh x) ∧ g1 = g) (mB k ad N) (mA ad N z9)) (cc := cX3_isShift) (maxL := 1) (ret := (some .boolean)) (by decide) rfl (Nat.le_of_ble_eq_true rfl) ?_
  intro p e s m below meth c hx hb hr hts hown hlocks hml hin hE hI ls hl
  have hl : lv_has ls 1 [(0, .int (nI x))] := hl
  refine lv_iload_n hx hb dX3_isShift_0 rfl (lv_at hl 0 rfl) ?_
  refine lv_bipush (v := nI 31) hx hb dX3_isShift_1 (by decide) ?_
  refine m_ceqN (tgt := 12) hx hb (by omega) (by omega) dX3_isShift_3 (by decide) (fun c_3 => ?_) (fun c_3 => ?_)
  · refine lv_iconst (v := nI 1) hx hb dX3_isShift_12 (by decide) ?_
    refine lv_goto (tgt := 17) hx hb dX3_isShift_13 (by decide) ?_
    refine m_top (y := bI true) (by decide) ?_
    exact m_zret (v := true) hx hb hr hlocks hI (⟨by rw [c_3] <;> rfl, rfl⟩) dX3_isShift_17
  · refine lv_iload_n hx hb dX3_isShift_6 rfl (lv_at hl 0 rfl) ?_
    refine lv_bipush (v := nI 27) hx hb dX3_isShift_7 (by decide) ?_
    refine m_cneN (tgt := 16) hx hb (by omega) (by omega) dX3_isShift_9 (by decide) (fun c_9 => ?_) (fun c_9 => ?_)
    · refine lv_iconst (v := nI 0) hx hb dX3_isShift_16 (by decide) ?_
      refine m_top (y := bI false) (by decide) ?_
      exact m_zret (v := false) hx hb hr hlocks hI (⟨by rw [show isSh x = false from by unfold isSh; rw [decide_eq_false c_3, decide_eq_false c_9] <;> rfl] <;> rfl, rfl⟩) dX3_isShift_17
    · refine lv_iconst (v := nI 1) hx hb dX3_isShift_12 (by decide) ?_
      refine lv_goto (tgt := 17) hx hb dX3_isShift_13 (by decide) ?_
      refine m_top (y := bI true) (by decide) ?_
      exact m_zret (v := true) hx hb hr hlocks hI (⟨by rw [c_9] <;> rfl, rfl⟩) dX3_isShift_17
set_option maxHeartbeats 4000000 in
set_option maxRecDepth 100000 in
theorem c_X3_shiftsToLetters (k : mC) (l : Launch) (ad : Nat → Nat) (N : Nat) (g : Nat → va_E) (sz : Nat) (rd : Nat) (fig uns : Bool) (came : Nat) (mis lost bel : Int32) (x : Nat) (hN : 50 ≤ N) (h0 : g 0 = .inr (3, [.ref (ad 1), .ref (ad 6), .ref (ad 48), .int (nI rd), .int (bI fig), .int (bI uns), .int (nI came), .int mis, .int lost, .int bel])) (hx32 : x < 32) : mCi k l yX3_shiftsToLetters wsX3_shiftsToLetters { frames := 0, cells := 0, slots := 0, locals := 0 } ad N g sz [.ref (ad 0), .int (nI x)] (fun r g1 => r = bI (stl uns x) ∧ g1 = g) := by
  refine mOf (Qc := fun z9 => va_Qi (fun r g1 => r = bI (stl uns x) ∧ g1 = g) (mB k ad N) (mA ad N z9)) (cc := cX3_shiftsToLetters) (maxL := 2) (ret := (some .boolean)) (by decide) rfl (Nat.le_of_ble_eq_true rfl) ?_
  intro p e s m below meth c hx hb hr hts hown hlocks hml hin hE hI ls hl
  have hl : lv_has ls 2 [(0, .ref (ad 0)), (1, .int (nI x))] := hl
  refine lv_iload_n hx hb dX3_shiftsToLetters_0 rfl (lv_at hl 1 rfl) ?_
  refine lv_bipush (v := nI 31) hx hb dX3_shiftsToLetters_1 (by decide) ?_
  refine m_ceqN (tgt := 23) hx hb (by omega) (by omega) dX3_shiftsToLetters_3 (by decide) (fun c_3 => ?_) (fun c_3 => ?_)
  · refine lv_iconst (v := nI 1) hx hb dX3_shiftsToLetters_23 (by decide) ?_
    refine lv_goto (tgt := 28) hx hb dX3_shiftsToLetters_24 (by decide) ?_
    refine m_top (y := bI true) (by decide) ?_
    exact m_zret (v := true) hx hb hr hlocks hI (⟨by rw [c_3] <;> rfl, rfl⟩) dX3_shiftsToLetters_28
  · refine lv_iload_n hx hb dX3_shiftsToLetters_6 rfl (lv_at hl 1 rfl) ?_
    refine lv_iconst (v := nI 2) hx hb dX3_shiftsToLetters_7 (by decide) ?_
    refine m_ceqN (tgt := 23) hx hb (by omega) (by omega) dX3_shiftsToLetters_8 (by decide) (fun c_8 => ?_) (fun c_8 => ?_)
    · refine lv_iconst (v := nI 1) hx hb dX3_shiftsToLetters_23 (by decide) ?_
      refine lv_goto (tgt := 28) hx hb dX3_shiftsToLetters_24 (by decide) ?_
      refine m_top (y := bI true) (by decide) ?_
      exact m_zret (v := true) hx hb hr hlocks hI (⟨by rw [c_8] <;> rfl, rfl⟩) dX3_shiftsToLetters_28
    · refine lv_aload_n hx hb dX3_shiftsToLetters_11 rfl (lv_at hl 0 rfl) ?_
      refine m_get (ci := 3) (C := RX3) (T := TX3) (N' := 10) hx hb hts (by decide +kernel) hown hE hI 0 (by omega) h0 rfl 5 (by decide) (hts (.fieldLink RX3 90 "TapePrinter" "unshifts" "Z") (by decide +kernel)) rfl dX3_shiftsToLetters_12 ?_
      refine m_zeqB (tgt := 27) hx hb dX3_shiftsToLetters_15 (by decide) (fun c_15 => ?_) (fun c_15 => ?_)
      · refine lv_iconst (v := nI 0) hx hb dX3_shiftsToLetters_27 (by decide) ?_
        refine m_top (y := bI false) (by decide) ?_
        exact m_zret (v := false) hx hb hr hlocks hI (⟨by rw [show stl uns x = false from by unfold stl; rw [decide_eq_false c_3, decide_eq_false c_8, c_15] <;> rfl] <;> rfl, rfl⟩) dX3_shiftsToLetters_28
      · refine lv_iload_n hx hb dX3_shiftsToLetters_18 rfl (lv_at hl 1 rfl) ?_
        refine lv_iconst (v := nI 4) hx hb dX3_shiftsToLetters_19 (by decide) ?_
        refine m_cneN (tgt := 27) hx hb (by omega) (by omega) dX3_shiftsToLetters_20 (by decide) (fun c_20 => ?_) (fun c_20 => ?_)
        · refine lv_iconst (v := nI 0) hx hb dX3_shiftsToLetters_27 (by decide) ?_
          refine m_top (y := bI false) (by decide) ?_
          exact m_zret (v := false) hx hb hr hlocks hI (⟨by rw [show stl uns x = false from by unfold stl; rw [decide_eq_false c_3, decide_eq_false c_8, decide_eq_false c_20, Bool.and_false] <;> rfl] <;> rfl, rfl⟩) dX3_shiftsToLetters_28
        · refine lv_iconst (v := nI 1) hx hb dX3_shiftsToLetters_23 (by decide) ?_
          refine lv_goto (tgt := 28) hx hb dX3_shiftsToLetters_24 (by decide) ?_
          refine m_top (y := bI true) (by decide) ?_
          exact m_zret (v := true) hx hb hr hlocks hI (⟨by rw [c_15, c_20] <;> rfl, rfl⟩) dX3_shiftsToLetters_28
set_option maxHeartbeats 4000000 in
set_option maxRecDepth 100000 in
theorem c_X3_figuresBehind (k : mC) (l : Launch) (ad : Nat → Nat) (N : Nat) (g : Nat → va_E) (sz : Nat) (rd : Nat) (fig uns : Bool) (came : Nat) (mis lost bel : Int32) (x : Nat) (b : Bool) (hN : 50 ≤ N) (h0 : g 0 = .inr (3, [.ref (ad 1), .ref (ad 6), .ref (ad 48), .int (nI rd), .int (bI fig), .int (bI uns), .int (nI came), .int mis, .int lost, .int bel])) (hx32 : x < 32) : mCi k l yX3_figuresBehind wsX3_figuresBehind { frames := 1, cells := 0, slots := 0, locals := 21 } ad N g sz [.ref (ad 0), .int (nI x), .int (bI b)] (fun r g1 => r = bI (fb uns x b) ∧ g1 = g) := by
  refine mOf (Qc := fun z9 => va_Qi (fun r g1 => r = bI (fb uns x b) ∧ g1 = g) (mB k ad N) (mA ad N z9)) (cc := cX3_figuresBehind) (maxL := 3) (ret := (some .boolean)) (by decide) rfl (Nat.le_of_ble_eq_true rfl) ?_
  intro p e s m below meth c hx hb hr hts hown hlocks hml hin hE hI ls hl
  have hl : lv_has ls 3 [(0, .ref (ad 0)), (1, .int (nI x)), (2, .int (bI b))] := hl
  refine lv_iload_n hx hb dX3_figuresBehind_0 rfl (lv_at hl 1 rfl) ?_
  refine lv_bipush (v := nI 27) hx hb dX3_figuresBehind_1 (by decide) ?_
  refine m_cneN (tgt := 8) hx hb (by omega) (by omega) dX3_figuresBehind_3 (by decide) (fun c_3 => ?_) (fun c_3 => ?_)
  · refine lv_iload_n hx hb dX3_figuresBehind_8 rfl (lv_at hl 2 rfl) ?_
    refine m_zeqB (tgt := 24) hx hb dX3_figuresBehind_9 (by decide) (fun c_9 => ?_) (fun c_9 => ?_)
    · refine lv_iconst (v := nI 0) hx hb dX3_figuresBehind_24 (by decide) ?_
      refine m_top (y := bI false) (by decide) ?_
      exact m_zret (v := false) hx hb hr hlocks hI (⟨by rw [show fb uns x b = false from by unfold fb; rw [decide_eq_false c_3, c_9] <;> rfl] <;> rfl, rfl⟩) dX3_figuresBehind_25
    · refine lv_aload_n hx hb dX3_figuresBehind_12 rfl (lv_at hl 0 rfl) ?_
      refine lv_iload_n hx hb dX3_figuresBehind_13 rfl (lv_at hl 1 rfl) ?_
      refine m_callVi (As := [.int (nI x)]) (rest := []) ⟨hx, hb, hml, hown, hts⟩ hE hI (c_X3_shiftsToLetters k l ad N g _ rd fig uns came mis lost bel  x (by omega) h0  (by omega)) (cwV 1 hts gX3_figuresBehind_X3_shiftsToLetters rfl rfl rfl (by decide +kernel) ⟨Nat.le_of_ble_eq_true rfl, Nat.le_of_ble_eq_true rfl⟩) (i := 0) (by omega) h0 rfl rfl hl.1 rfl (Nat.le_of_ble_eq_true rfl) dX3_figuresBehind_14 ⟨Nat.le_of_ble_eq_true rfl, Nat.le_of_ble_eq_true rfl⟩ (m_deti (fun H locs hI => ?_))
      refine m_zneB (tgt := 24) hx hb dX3_figuresBehind_17 (by decide) (fun c_17 => ?_) (fun c_17 => ?_)
      · refine lv_iconst (v := nI 0) hx hb dX3_figuresBehind_24 (by decide) ?_
        refine m_top (y := bI false) (by decide) ?_
        exact m_zret (v := false) hx hb hr hlocks hI (⟨by rw [show fb uns x b = false from by unfold fb; rw [decide_eq_false c_3, c_17, c_9] <;> rfl] <;> rfl, rfl⟩) dX3_figuresBehind_25
      · refine lv_iconst (v := nI 1) hx hb dX3_figuresBehind_20 (by decide) ?_
        refine lv_goto (tgt := 25) hx hb dX3_figuresBehind_21 (by decide) ?_
        refine m_top (y := bI true) (by decide) ?_
        exact m_zret (v := true) hx hb hr hlocks hI (⟨by rw [show fb uns x b = true from by unfold fb; rw [c_17, c_9]; exact Bool.or_true _] <;> rfl, rfl⟩) dX3_figuresBehind_25
  · refine lv_iconst (v := nI 1) hx hb dX3_figuresBehind_6 (by decide) ?_
    refine m_top (y := bI true) (by decide) ?_
    exact m_zret (v := true) hx hb hr hlocks hI (⟨by rw [c_3] <;> rfl, rfl⟩) dX3_figuresBehind_7
set_option maxHeartbeats 4000000 in
set_option maxRecDepth 100000 in
theorem c_X3_figuresAhead (k : mC) (l : Launch) (ad : Nat → Nat) (N : Nat) (g : Nat → va_E) (sz : Nat) (rd : Nat) (fig uns : Bool) (came : Nat) (mis lost bel : Int32) (n : Nat) (T : Nat → Nat) (e0 : Nat) (hN : 50 ≤ N) (h0 : g 0 = .inr (3, [.ref (ad 1), .ref (ad 6), .ref (ad 48), .int (nI rd), .int (bI fig), .int (bI uns), .int (nI came), .int mis, .int lost, .int bel])) (hn : n ≤ 120) (hT : ∀ j, T j < 32) (hr48 : CRow k ad g 48 120 n (fun j => nI (T j))) (he0 : e0 ≤ n) : mCi k l yX3_figuresAhead wsX3_figuresAhead { frames := 2, cells := 0, slots := 0, locals := 43 } ad N g sz [.ref (ad 0), .int (nI e0)] (fun r g1 => r = bI (fa uns T e0) ∧ g1 = g) := by
  refine mOf (Qc := fun z9 => va_Qi (fun r g1 => r = bI (fa uns T e0) ∧ g1 = g) (mB k ad N) (mA ad N z9)) (cc := cX3_figuresAhead) (maxL := 4) (ret := (some .boolean)) (by decide) rfl (Nat.le_of_ble_eq_true rfl) ?_
  intro p e s m below meth c hx hb hr hts hown hlocks hml hin hE hI ls hl
  have hl : lv_has ls 4 [(0, .ref (ad 0)), (1, .int (nI e0))] := hl
  have h48 := hr48.1
  have h49 := hr48.2
  refine lv_iconst (v := nI 0) hx hb dX3_figuresAhead_0 (by decide) ?_
  refine m_top (show nI 0 = bI (fa uns T 0) from rfl) ?_
  refine lv_istore_n (lv' := [(2, .int (bI (fa uns T 0))), (0, .ref (ad 0)), (1, .int (nI e0))]) hx hb dX3_figuresAhead_1 rfl hl (by decide) rfl (fun ls hl => ?_)
  refine lv_iconst (v := nI 0) hx hb dX3_figuresAhead_2 (by decide) ?_
  refine lv_istore_n (lv' := [(3, .int (nI 0)), (2, .int (bI (fa uns T 0))), (0, .ref (ad 0)), (1, .int (nI e0))]) hx hb dX3_figuresAhead_3 rfl hl (by decide) rfl (fun ls hl => ?_)
  refine m_loop (σ := Nat) (fun i => i ≤ e0) (fun i => e0 - i) (fun i => g) (fun i => [(0, .ref (ad 0)), (1, .int (nI e0)), (2, .int (bI (fa uns T i))), (3, .int (nI i))]) (nL := 4) 0 (Nat.zero_le _) hI (lv_sub hl [2, 3, 1, 0] rfl) ?_
  rintro i hie ih4 H locs ls hI hl
  have hI : mI k ad N g (mA ad N s.heap.size) s H locs := hI
  have hl : lv_has ls 4 [(0, .ref (ad 0)), (1, .int (nI e0)), (2, .int (bI (fa uns T i))), (3, .int (nI i))] := hl
  refine lv_iload_n hx hb dX3_figuresAhead_4 rfl (lv_at hl 3 rfl) ?_
  refine lv_iload_n hx hb dX3_figuresAhead_5 rfl (lv_at hl 1 rfl) ?_
  refine m_cgeN (tgt := 40) hx hb (by omega) (by omega) dX3_figuresAhead_6 (by decide) (fun c_6 => ?_) (fun c_6 => ?_)
  · refine lv_iload_n hx hb dX3_figuresAhead_40 rfl (lv_at hl 2 rfl) ?_
    exact m_zret (v := fa uns T i) hx hb hr hlocks hI (⟨by rw [show i = e0 by omega], rfl⟩) dX3_figuresAhead_41
  · refine lv_iload_n hx hb dX3_figuresAhead_9 rfl (lv_at hl 3 rfl) ?_
    refine lv_aload_n hx hb dX3_figuresAhead_10 rfl (lv_at hl 0 rfl) ?_
    refine m_get (ci := 3) (C := RX3) (T := TX3) (N' := 10) hx hb hts (by decide +kernel) hown hE hI 0 (by omega) h0 rfl 2 (by decide) (hts (.fieldLink RX3 28 "TapePrinter" "strip" "LTapePrinter$Row;") (by decide +kernel)) rfl dX3_figuresAhead_11 ?_
    refine m_callVi (As := []) (rest := [.int (nI i)]) ⟨hx, hb, hml, hown, hts⟩ hE hI (c_X0_size k l ad N g _ 48 120 n (fun j => nI (T j))  (by omega) (by omega) (by omega) ⟨h48, h49⟩) (cwV 0 hts gX3_figuresAhead_X0_size rfl rfl rfl (by decide +kernel) ⟨Nat.le_of_ble_eq_true rfl, Nat.le_of_ble_eq_true rfl⟩) (i := 48) (by omega) h48 rfl rfl hl.1 rfl (Nat.le_of_ble_eq_true rfl) dX3_figuresAhead_14 ⟨Nat.le_of_ble_eq_true rfl, Nat.le_of_ble_eq_true rfl⟩ (m_deti (fun H locs hI => ?_))
    refine m_cgeN (tgt := 40) hx hb (by omega) (by omega) dX3_figuresAhead_17 (by decide) (fun c_17 => ?_) (fun c_17 => ?_)
    · exact absurd c_17 (by omega)
    · refine lv_aload_n hx hb dX3_figuresAhead_20 rfl (lv_at hl 0 rfl) ?_
      refine lv_aload_n hx hb dX3_figuresAhead_21 rfl (lv_at hl 0 rfl) ?_
      refine m_get (ci := 3) (C := RX3) (T := TX3) (N' := 10) hx hb hts (by decide +kernel) hown hE hI 0 (by omega) h0 rfl 2 (by decide) (hts (.fieldLink RX3 28 "TapePrinter" "strip" "LTapePrinter$Row;") (by decide +kernel)) rfl dX3_figuresAhead_22 ?_
      refine lv_iload_n hx hb dX3_figuresAhead_25 rfl (lv_at hl 3 rfl) ?_
      refine m_callVi (As := [.int (nI i)]) (rest := [.ref (ad 0)]) ⟨hx, hb, hml, hown, hts⟩ hE hI (c_X0_at k l ad N g _ 48 120 n (fun j => nI (T j)) i (by omega) (by omega) (by omega) ⟨h48, h49⟩ (by omega)) (cwV 1 hts gX3_figuresAhead_X0_at rfl rfl rfl (by decide +kernel) ⟨Nat.le_of_ble_eq_true rfl, Nat.le_of_ble_eq_true rfl⟩) (i := 48) (by omega) h48 rfl rfl hl.1 rfl (Nat.le_of_ble_eq_true rfl) dX3_figuresAhead_26 ⟨Nat.le_of_ble_eq_true rfl, Nat.le_of_ble_eq_true rfl⟩ (m_deti (fun H locs hI => ?_))
      refine m_top (show (fun j => nI (T j)) i = nI (T i) from rfl) ?_
      have ht_1 := hT i
      refine lv_iload_n hx hb dX3_figuresAhead_29 rfl (lv_at hl 2 rfl) ?_
      refine m_callVi (As := [.int (nI (T i)), .int (bI (fa uns T i))]) (rest := []) ⟨hx, hb, hml, hown, hts⟩ hE hI (c_X3_figuresBehind k l ad N g _ rd fig uns came mis lost bel  (T i) (fa uns T i) (by omega) h0  (hT _)) (cwV 2 hts gX3_figuresAhead_X3_figuresBehind rfl rfl rfl (by decide +kernel) ⟨Nat.le_of_ble_eq_true rfl, Nat.le_of_ble_eq_true rfl⟩) (i := 0) (by omega) h0 rfl rfl hl.1 rfl (Nat.le_of_ble_eq_true rfl) dX3_figuresAhead_30 ⟨Nat.le_of_ble_eq_true rfl, Nat.le_of_ble_eq_true rfl⟩ (m_deti (fun H locs hI => ?_))
      refine lv_istore_n (lv' := [(2, .int (bI (fb uns (T i) (fa uns T i)))), (0, .ref (ad 0)), (1, .int (nI e0)), (3, .int (nI i))]) hx hb dX3_figuresAhead_33 rfl hl (by decide) rfl (fun ls hl => ?_)
      refine lv_iinc (v := nI (i + 1)) (lv' := [(3, .int (nI (i + 1))), (2, .int (bI (fb uns (T i) (fa uns T i)))), (0, .ref (ad 0)), (1, .int (nI e0))]) hx hb dX3_figuresAhead_34 hl (k := 3) rfl (nI_add i 1) (by decide) rfl (fun ls hl => ?_)
      refine lv_goto (tgt := 4) hx hb dX3_figuresAhead_37 (by decide) ?_
      exact ih4 (i + 1) (show i + 1 ≤ e0 by omega) (show e0 - (i + 1) < e0 - i by omega) _ _ _ hI (lv_sub hl [2, 3, 1, 0] rfl)
set_option maxHeartbeats 4000000 in
set_option maxRecDepth 100000 in
theorem c_X3_figuresAtEnd (k : mC) (l : Launch) (ad : Nat → Nat) (N : Nat) (g : Nat → va_E) (sz : Nat) (rd : Nat) (fig uns : Bool) (came : Nat) (mis lost bel : Int32) (n : Nat) (T : Nat → Nat)  (hN : 50 ≤ N) (h0 : g 0 = .inr (3, [.ref (ad 1), .ref (ad 6), .ref (ad 48), .int (nI rd), .int (bI fig), .int (bI uns), .int (nI came), .int mis, .int lost, .int bel])) (hn : n ≤ 120) (hT : ∀ j, T j < 32) (hr48 : CRow k ad g 48 120 n (fun j => nI (T j))) : mCi k l yX3_figuresAtEnd wsX3_figuresAtEnd { frames := 3, cells := 0, slots := 0, locals := 66 } ad N g sz [.ref (ad 0)] (fun r g1 => r = bI (fa uns T n) ∧ g1 = g) := by
  refine mOf (Qc := fun z9 => va_Qi (fun r g1 => r = bI (fa uns T n) ∧ g1 = g) (mB k ad N) (mA ad N z9)) (cc := cX3_figuresAtEnd) (maxL := 1) (ret := (some .boolean)) (by decide) rfl (Nat.le_of_ble_eq_true rfl) ?_
  intro p e s m below meth c hx hb hr hts hown hlocks hml hin hE hI ls hl
  have hl : lv_has ls 1 [(0, .ref (ad 0))] := hl
  have h48 := hr48.1
  have h49 := hr48.2
  refine lv_aload_n hx hb dX3_figuresAtEnd_0 rfl (lv_at hl 0 rfl) ?_
  refine lv_aload_n hx hb dX3_figuresAtEnd_1 rfl (lv_at hl 0 rfl) ?_
  refine m_get (ci := 3) (C := RX3) (T := TX3) (N' := 10) hx hb hts (by decide +kernel) hown hE hI 0 (by omega) h0 rfl 2 (by decide) (hts (.fieldLink RX3 28 "TapePrinter" "strip" "LTapePrinter$Row;") (by decide +kernel)) rfl dX3_figuresAtEnd_2 ?_
  refine m_callVi (As := []) (rest := [.ref (ad 0)]) ⟨hx, hb, hml, hown, hts⟩ hE hI (c_X0_size k l ad N g _ 48 120 n (fun j => nI (T j))  (by omega) (by omega) (by omega) ⟨h48, h49⟩) (cwV 0 hts gX3_figuresAtEnd_X0_size rfl rfl rfl (by decide +kernel) ⟨Nat.le_of_ble_eq_true rfl, Nat.le_of_ble_eq_true rfl⟩) (i := 48) (by omega) h48 rfl rfl hl.1 rfl (Nat.le_of_ble_eq_true rfl) dX3_figuresAtEnd_5 ⟨Nat.le_of_ble_eq_true rfl, Nat.le_of_ble_eq_true rfl⟩ (m_deti (fun H locs hI => ?_))
  refine m_callVi (As := [.int (nI n)]) (rest := []) ⟨hx, hb, hml, hown, hts⟩ hE hI (c_X3_figuresAhead k l ad N g _ rd fig uns came mis lost bel n T n (by omega) h0 (by omega) hT ⟨h48, h49⟩ (by omega)) (cwV 1 hts gX3_figuresAtEnd_X3_figuresAhead rfl rfl rfl (by decide +kernel) ⟨Nat.le_of_ble_eq_true rfl, Nat.le_of_ble_eq_true rfl⟩) (i := 0) (by omega) h0 rfl rfl hl.1 rfl (Nat.le_of_ble_eq_true rfl) dX3_figuresAtEnd_8 ⟨Nat.le_of_ble_eq_true rfl, Nat.le_of_ble_eq_true rfl⟩ (m_deti (fun H locs hI => ?_))
  exact m_zret (v := fa uns T n) hx hb hr hlocks hI (⟨rfl, rfl⟩) dX3_figuresAtEnd_11
set_option maxHeartbeats 4000000 in
set_option maxRecDepth 100000 in
theorem c_X3_servesBehind (k : mC) (l : Launch) (ad : Nat → Nat) (N : Nat) (g : Nat → va_E) (sz : Nat) (rd : Nat) (fig uns : Bool) (came : Nat) (mis lost bel : Int32) (n : Nat) (T : Nat → Nat) (s0 : Nat) (hN : 50 ≤ N) (h0 : g 0 = .inr (3, [.ref (ad 1), .ref (ad 6), .ref (ad 48), .int (nI rd), .int (bI fig), .int (bI uns), .int (nI came), .int mis, .int lost, .int bel])) (hn : n ≤ 120) (hT : ∀ j, T j < 32) (hr48 : CRow k ad g 48 120 n (fun j => nI (T j))) (hs0 : s0 < n) : mCi k l yX3_servesBehind wsX3_servesBehind { frames := 2, cells := 0, slots := 0, locals := 42 } ad N g sz [.ref (ad 0), .int (nI s0)] (fun r g1 => r = bI (sv uns T (n - (s0 + 1)) (s0 + 1)) ∧ g1 = g) := by
  refine mOf (Qc := fun z9 => va_Qi (fun r g1 => r = bI (sv uns T (n - (s0 + 1)) (s0 + 1)) ∧ g1 = g) (mB k ad N) (mA ad N z9)) (cc := cX3_servesBehind) (maxL := 4) (ret := (some .boolean)) (by decide) rfl (Nat.le_of_ble_eq_true rfl) ?_
  intro p e s m below meth c hx hb hr hts hown hlocks hml hin hE hI ls hl
  have hl : lv_has ls 4 [(0, .ref (ad 0)), (1, .int (nI s0))] := hl
  have h48 := hr48.1
  have h49 := hr48.2
  refine lv_iload_n hx hb dX3_servesBehind_0 rfl (lv_at hl 1 rfl) ?_
  refine lv_iconst (v := nI 1) hx hb dX3_servesBehind_1 (by decide) ?_
  refine m_iaddN hx hb dX3_servesBehind_2 ?_
  refine lv_istore_n (lv' := [(2, .int (nI (s0 + 1))), (0, .ref (ad 0)), (1, .int (nI s0))]) hx hb dX3_servesBehind_3 rfl hl (by decide) rfl (fun ls hl => ?_)
  refine m_loop (σ := Nat) (fun i => i ≤ n ∧ sv uns T (n - i) i = sv uns T (n - (s0 + 1)) (s0 + 1)) (fun i => n - i) (fun i => g) (fun i => [(0, .ref (ad 0)), (1, .int (nI s0)), (2, .int (nI i))]) (nL := 4) (s0 + 1) ⟨by omega, rfl⟩ hI (lv_sub hl [1, 2, 0] rfl) ?_
  rintro i ⟨hin1, hsv⟩ ih4 H locs ls hI hl
  have hI : mI k ad N g (mA ad N s.heap.size) s H locs := hI
  have hl : lv_has ls 4 [(0, .ref (ad 0)), (1, .int (nI s0)), (2, .int (nI i))] := hl
  refine lv_iload_n hx hb dX3_servesBehind_4 rfl (lv_at hl 2 rfl) ?_
  refine lv_aload_n hx hb dX3_servesBehind_5 rfl (lv_at hl 0 rfl) ?_
  refine m_get (ci := 3) (C := RX3) (T := TX3) (N' := 10) hx hb hts (by decide +kernel) hown hE hI 0 (by omega) h0 rfl 2 (by decide) (hts (.fieldLink RX3 28 "TapePrinter" "strip" "LTapePrinter$Row;") (by decide +kernel)) rfl dX3_servesBehind_6 ?_
  refine m_callVi (As := []) (rest := [.int (nI i)]) ⟨hx, hb, hml, hown, hts⟩ hE hI (c_X0_size k l ad N g _ 48 120 n (fun j => nI (T j))  (by omega) (by omega) (by omega) ⟨h48, h49⟩) (cwV 0 hts gX3_servesBehind_X0_size rfl rfl rfl (by decide +kernel) ⟨Nat.le_of_ble_eq_true rfl, Nat.le_of_ble_eq_true rfl⟩) (i := 48) (by omega) h48 rfl rfl hl.1 rfl (Nat.le_of_ble_eq_true rfl) dX3_servesBehind_9 ⟨Nat.le_of_ble_eq_true rfl, Nat.le_of_ble_eq_true rfl⟩ (m_deti (fun H locs hI => ?_))
  refine m_cgeN (tgt := 55) hx hb (by omega) (by omega) dX3_servesBehind_12 (by decide) (fun c_12 => ?_) (fun c_12 => ?_)
  · refine lv_iconst (v := nI 0) hx hb dX3_servesBehind_55 (by decide) ?_
    refine m_top (y := bI false) (by decide) ?_
    exact m_zret (v := false) hx hb hr hlocks hI (⟨by rw [← hsv, show n - i = 0 by omega] <;> rfl, rfl⟩) dX3_servesBehind_56
  · have hsv1 : sv uns T (n - i) i = if dep (T i) then true else if decide (T i = 27) || stl uns (T i) then false else sv uns T (n - (i + 1)) (i + 1) := by rw [show n - i = (n - (i + 1)) + 1 by omega] <;> rfl
    refine lv_aload_n hx hb dX3_servesBehind_15 rfl (lv_at hl 0 rfl) ?_
    refine m_get (ci := 3) (C := RX3) (T := TX3) (N' := 10) hx hb hts (by decide +kernel) hown hE hI 0 (by omega) h0 rfl 2 (by decide) (hts (.fieldLink RX3 28 "TapePrinter" "strip" "LTapePrinter$Row;") (by decide +kernel)) rfl dX3_servesBehind_16 ?_
    refine lv_iload_n hx hb dX3_servesBehind_19 rfl (lv_at hl 2 rfl) ?_
    refine m_callVi (As := [.int (nI i)]) (rest := []) ⟨hx, hb, hml, hown, hts⟩ hE hI (c_X0_at k l ad N g _ 48 120 n (fun j => nI (T j)) i (by omega) (by omega) (by omega) ⟨h48, h49⟩ (by omega)) (cwV 1 hts gX3_servesBehind_X0_at rfl rfl rfl (by decide +kernel) ⟨Nat.le_of_ble_eq_true rfl, Nat.le_of_ble_eq_true rfl⟩) (i := 48) (by omega) h48 rfl rfl hl.1 rfl (Nat.le_of_ble_eq_true rfl) dX3_servesBehind_20 ⟨Nat.le_of_ble_eq_true rfl, Nat.le_of_ble_eq_true rfl⟩ (m_deti (fun H locs hI => ?_))
    refine m_top (show (fun j => nI (T j)) i = nI (T i) from rfl) ?_
    have ht_1 := hT i
    refine lv_istore_n (lv' := [(3, .int (nI (T i))), (0, .ref (ad 0)), (1, .int (nI s0)), (2, .int (nI i))]) hx hb dX3_servesBehind_23 rfl hl (by decide) rfl (fun ls hl => ?_)
    refine lv_iload_n hx hb dX3_servesBehind_24 rfl (lv_at hl 0 rfl) ?_
    refine m_callSi (As := [.int (nI (T i))]) (rest := []) ⟨hx, hb, hml, hown, hts⟩ hE hI (c_X3_dependsOnShift k l ad N g _ (T i) (hT _)) (va_cwS 1 hts gX3_servesBehind_X3_dependsOnShift rfl rfl rfl (by decide +kernel) ⟨Nat.le_of_ble_eq_true rfl, Nat.le_of_ble_eq_true rfl⟩) rfl hl.1 rfl (Nat.le_of_ble_eq_true rfl) dX3_servesBehind_25 ⟨Nat.le_of_ble_eq_true rfl, Nat.le_of_ble_eq_true rfl⟩ (m_deti (fun H locs hI => ?_))
    refine m_zeqB (tgt := 33) hx hb dX3_servesBehind_28 (by decide) (fun c_28 => ?_) (fun c_28 => ?_)
    · refine lv_iload_n hx hb dX3_servesBehind_33 rfl (lv_at hl 0 rfl) ?_
      refine lv_bipush (v := nI 27) hx hb dX3_servesBehind_34 (by decide) ?_
      refine m_ceqN (tgt := 47) hx hb (by omega) (by omega) dX3_servesBehind_36 (by decide) (fun c_36 => ?_) (fun c_36 => ?_)
      · refine lv_iconst (v := nI 0) hx hb dX3_servesBehind_47 (by decide) ?_
        refine m_top (y := bI false) (by decide) ?_
        exact m_zret (v := false) hx hb hr hlocks hI (⟨by rw [← hsv, hsv1, c_28, c_36] <;> rfl, rfl⟩) dX3_servesBehind_48
      · refine lv_aload_n hx hb dX3_servesBehind_39 rfl (lv_at hl 1 rfl) ?_
        refine lv_iload_n hx hb dX3_servesBehind_40 rfl (lv_at hl 0 rfl) ?_
        refine m_callVi (As := [.int (nI (T i))]) (rest := []) ⟨hx, hb, hml, hown, hts⟩ hE hI (c_X3_shiftsToLetters k l ad N g _ rd fig uns came mis lost bel  (T i) (by omega) h0  (hT _)) (cwV 1 hts gX3_servesBehind_X3_shiftsToLetters rfl rfl rfl (by decide +kernel) ⟨Nat.le_of_ble_eq_true rfl, Nat.le_of_ble_eq_true rfl⟩) (i := 0) (by omega) h0 rfl rfl hl.1 rfl (Nat.le_of_ble_eq_true rfl) dX3_servesBehind_41 ⟨Nat.le_of_ble_eq_true rfl, Nat.le_of_ble_eq_true rfl⟩ (m_deti (fun H locs hI => ?_))
        refine m_zeqB (tgt := 49) hx hb dX3_servesBehind_44 (by decide) (fun c_44 => ?_) (fun c_44 => ?_)
        · refine lv_iinc (v := nI (i + 1)) (lv' := [(2, .int (nI (i + 1))), (3, .int (nI (T i))), (0, .ref (ad 0)), (1, .int (nI s0))]) hx hb dX3_servesBehind_49 hl (k := 3) rfl (nI_add i 1) (by decide) rfl (fun ls hl => ?_)
          refine lv_goto (tgt := 4) hx hb dX3_servesBehind_52 (by decide) ?_
          exact ih4 (i + 1) ⟨by omega, by rw [← hsv, hsv1, c_28, decide_eq_false c_36, c_44] <;> rfl⟩ (show n - (i + 1) < n - i by omega) _ _ _ hI (lv_sub hl [2, 3, 0] rfl)
        · refine lv_iconst (v := nI 0) hx hb dX3_servesBehind_47 (by decide) ?_
          refine m_top (y := bI false) (by decide) ?_
          exact m_zret (v := false) hx hb hr hlocks hI (⟨by rw [← hsv, hsv1, c_28, c_44, Bool.or_true] <;> rfl, rfl⟩) dX3_servesBehind_48
    · refine lv_iconst (v := nI 1) hx hb dX3_servesBehind_31 (by decide) ?_
      refine m_top (y := bI true) (by decide) ?_
      exact m_zret (v := true) hx hb hr hlocks hI (⟨by rw [← hsv, hsv1, c_28] <;> rfl, rfl⟩) dX3_servesBehind_32
set_option maxHeartbeats 4000000 in
set_option maxRecDepth 100000 in
theorem c_X3_idle (k : mC) (l : Launch) (ad : Nat → Nat) (N : Nat) (g : Nat → va_E) (sz : Nat) (rd : Nat) (fig uns : Bool) (came : Nat) (mis lost bel : Int32) (n : Nat) (T : Nat → Nat)  (hN : 50 ≤ N) (h0 : g 0 = .inr (3, [.ref (ad 1), .ref (ad 6), .ref (ad 48), .int (nI rd), .int (bI fig), .int (bI uns), .int (nI came), .int mis, .int lost, .int bel])) (hn : n ≤ 120) (hT : ∀ j, T j < 32) (hr48 : CRow k ad g 48 120 n (fun j => nI (T j))) : mCi k l yX3_idle wsX3_idle { frames := 3, cells := 0, slots := 0, locals := 65 } ad N g sz [.ref (ad 0)] (fun r g1 => r = nI (idl uns T n n) ∧ g1 = g) := by
  refine mOf (Qc := fun z9 => va_Qi (fun r g1 => r = nI (idl uns T n n) ∧ g1 = g) (mB k ad N) (mA ad N z9)) (cc := cX3_idle) (maxL := 6) (ret := (some .int)) (by decide) rfl (Nat.le_of_ble_eq_true rfl) ?_
  intro p e s m below meth c hx hb hr hts hown hlocks hml hin hE hI ls hl
  have hl : lv_has ls 6 [(0, .ref (ad 0))] := hl
  have h48 := hr48.1
  have h49 := hr48.2
  refine lv_iconst (v := nI 0) hx hb dX3_idle_0 (by decide) ?_
  refine lv_istore_n (lv' := [(1, .int (nI 0)), (0, .ref (ad 0))]) hx hb dX3_idle_1 rfl hl (by decide) rfl (fun ls hl => ?_)
  refine lv_iconst (v := nI 0) hx hb dX3_idle_2 (by decide) ?_
  refine m_top (show nI 0 = bI (fa uns T 0) from rfl) ?_
  refine lv_istore_n (lv' := [(2, .int (bI (fa uns T 0))), (1, .int (nI 0)), (0, .ref (ad 0))]) hx hb dX3_idle_3 rfl hl (by decide) rfl (fun ls hl => ?_)
  refine lv_iconst (v := nI 0) hx hb dX3_idle_4 (by decide) ?_
  refine lv_istore_n (lv' := [(3, .int (nI 0)), (2, .int (bI (fa uns T 0))), (1, .int (nI 0)), (0, .ref (ad 0))]) hx hb dX3_idle_5 rfl hl (by decide) rfl (fun ls hl => ?_)
  refine m_loop (σ := Nat) (fun i => i ≤ n) (fun i => n - i) (fun i => g) (fun i => [(0, .ref (ad 0)), (1, .int (nI (idl uns T n i))), (2, .int (bI (fa uns T i))), (3, .int (nI i))]) (nL := 6) 0 (Nat.zero_le _) hI (lv_sub hl [3, 2, 1, 0] rfl) ?_
  rintro i hi0 ih6 H locs ls hI hl
  have hI : mI k ad N g (mA ad N s.heap.size) s H locs := hI
  have hl : lv_has ls 6 [(0, .ref (ad 0)), (1, .int (nI (idl uns T n i))), (2, .int (bI (fa uns T i))), (3, .int (nI i))] := hl
  have hid := idl_le uns T n i
  refine lv_iload_n hx hb dX3_idle_6 rfl (lv_at hl 3 rfl) ?_
  refine lv_aload_n hx hb dX3_idle_7 rfl (lv_at hl 0 rfl) ?_
  refine m_get (ci := 3) (C := RX3) (T := TX3) (N' := 10) hx hb hts (by decide +kernel) hown hE hI 0 (by omega) h0 rfl 2 (by decide) (hts (.fieldLink RX3 28 "TapePrinter" "strip" "LTapePrinter$Row;") (by decide +kernel)) rfl dX3_idle_8 ?_
  refine m_callVi (As := []) (rest := [.int (nI i)]) ⟨hx, hb, hml, hown, hts⟩ hE hI (c_X0_size k l ad N g _ 48 120 n (fun j => nI (T j))  (by omega) (by omega) (by omega) ⟨h48, h49⟩) (cwV 0 hts gX3_idle_X0_size rfl rfl rfl (by decide +kernel) ⟨Nat.le_of_ble_eq_true rfl, Nat.le_of_ble_eq_true rfl⟩) (i := 48) (by omega) h48 rfl rfl hl.1 rfl (Nat.le_of_ble_eq_true rfl) dX3_idle_11 ⟨Nat.le_of_ble_eq_true rfl, Nat.le_of_ble_eq_true rfl⟩ (m_deti (fun H locs hI => ?_))
  refine m_cgeN (tgt := 70) hx hb (by omega) (by omega) dX3_idle_14 (by decide) (fun c_14 => ?_) (fun c_14 => ?_)
  · refine lv_iload_n hx hb dX3_idle_70 rfl (lv_at hl 1 rfl) ?_
    exact m_iret hx hb hr hlocks hI (⟨by rw [show i = n by omega], rfl⟩) dX3_idle_71
  · refine lv_aload_n hx hb dX3_idle_17 rfl (lv_at hl 0 rfl) ?_
    refine m_get (ci := 3) (C := RX3) (T := TX3) (N' := 10) hx hb hts (by decide +kernel) hown hE hI 0 (by omega) h0 rfl 2 (by decide) (hts (.fieldLink RX3 28 "TapePrinter" "strip" "LTapePrinter$Row;") (by decide +kernel)) rfl dX3_idle_18 ?_
    refine lv_iload_n hx hb dX3_idle_21 rfl (lv_at hl 3 rfl) ?_
    refine m_callVi (As := [.int (nI i)]) (rest := []) ⟨hx, hb, hml, hown, hts⟩ hE hI (c_X0_at k l ad N g _ 48 120 n (fun j => nI (T j)) i (by omega) (by omega) (by omega) ⟨h48, h49⟩ (by omega)) (cwV 1 hts gX3_idle_X0_at rfl rfl rfl (by decide +kernel) ⟨Nat.le_of_ble_eq_true rfl, Nat.le_of_ble_eq_true rfl⟩) (i := 48) (by omega) h48 rfl rfl hl.1 rfl (Nat.le_of_ble_eq_true rfl) dX3_idle_22 ⟨Nat.le_of_ble_eq_true rfl, Nat.le_of_ble_eq_true rfl⟩ (m_deti (fun H locs hI => ?_))
    refine m_top (show (fun j => nI (T j)) i = nI (T i) from rfl) ?_
    have ht_1 := hT i
    refine lv_istore (lv' := [(4, .int (nI (T i))), (0, .ref (ad 0)), (1, .int (nI (idl uns T n i))), (2, .int (bI (fa uns T i))), (3, .int (nI i))]) hx hb dX3_idle_25 hl (by decide) rfl (fun ls hl => ?_)
    refine lv_aload_n hx hb dX3_idle_27 rfl (lv_at hl 1 rfl) ?_
    refine lv_iload hx hb dX3_idle_28 (lv_at hl 0 rfl) ?_
    refine lv_iload_n hx hb dX3_idle_30 rfl (lv_at hl 3 rfl) ?_
    refine m_callVi (As := [.int (nI (T i)), .int (bI (fa uns T i))]) (rest := []) ⟨hx, hb, hml, hown, hts⟩ hE hI (c_X3_figuresBehind k l ad N g _ rd fig uns came mis lost bel  (T i) (fa uns T i) (by omega) h0  (hT _)) (cwV 2 hts gX3_idle_X3_figuresBehind rfl rfl rfl (by decide +kernel) ⟨Nat.le_of_ble_eq_true rfl, Nat.le_of_ble_eq_true rfl⟩) (i := 0) (by omega) h0 rfl rfl hl.1 rfl (Nat.le_of_ble_eq_true rfl) dX3_idle_31 ⟨Nat.le_of_ble_eq_true rfl, Nat.le_of_ble_eq_true rfl⟩ (m_deti (fun H locs hI => ?_))
    refine lv_istore (lv' := [(5, .int (bI (fb uns (T i) (fa uns T i)))), (4, .int (nI (T i))), (0, .ref (ad 0)), (1, .int (nI (idl uns T n i))), (2, .int (bI (fa uns T i))), (3, .int (nI i))]) hx hb dX3_idle_34 hl (by decide) rfl (fun ls hl => ?_)
    refine lv_iload hx hb dX3_idle_36 (lv_at hl 1 rfl) ?_
    refine m_callSi (As := [.int (nI (T i))]) (rest := []) ⟨hx, hb, hml, hown, hts⟩ hE hI (c_X3_isShift k l ad N g _ (T i) (hT _)) (va_cwS 1 hts gX3_idle_X3_isShift rfl rfl rfl (by decide +kernel) ⟨Nat.le_of_ble_eq_true rfl, Nat.le_of_ble_eq_true rfl⟩) rfl hl.1 rfl (Nat.le_of_ble_eq_true rfl) dX3_idle_38 ⟨Nat.le_of_ble_eq_true rfl, Nat.le_of_ble_eq_true rfl⟩ (m_deti (fun H locs hI => ?_))
    refine m_zeqB (tgt := 61) hx hb dX3_idle_41 (by decide) (fun c_41 => ?_) (fun c_41 => ?_)
    · have hidb : idB uns T n i = false := by unfold idB; simp only [c_41, Bool.false_and]
      have hidn : idl uns T n (i + 1) = idl uns T n i := by show (if idB uns T n i then idl uns T n i + 1 else idl uns T n i) = _; rw [hidb] <;> rfl
      have hl : lv_has ls 6 [(5, .int (bI (fb uns (T i) (fa uns T i)))), (4, .int (nI (T i))), (0, .ref (ad 0)), (1, .int (nI (idl uns T n (i + 1)))), (2, .int (bI (fa uns T i))), (3, .int (nI i))] := by rw [hidn]; exact hl
      refine lv_iload hx hb dX3_idle_61 (lv_at hl 0 rfl) ?_
      refine lv_istore_n (lv' := [(2, .int (bI (fb uns (T i) (fa uns T i)))), (5, .int (bI (fb uns (T i) (fa uns T i)))), (4, .int (nI (T i))), (0, .ref (ad 0)), (1, .int (nI (idl uns T n (i + 1)))), (3, .int (nI i))]) hx hb dX3_idle_63 rfl hl (by decide) rfl (fun ls hl => ?_)
      refine lv_iinc (v := nI (i + 1)) (lv' := [(3, .int (nI (i + 1))), (2, .int (bI (fb uns (T i) (fa uns T i)))), (5, .int (bI (fb uns (T i) (fa uns T i)))), (4, .int (nI (T i))), (0, .ref (ad 0)), (1, .int (nI (idl uns T n (i + 1))))]) hx hb dX3_idle_64 hl (k := 5) rfl (nI_add i 1) (by decide) rfl (fun ls hl => ?_)
      refine lv_goto (tgt := 6) hx hb dX3_idle_67 (by decide) ?_
      exact ih6 (i + 1) (show i + 1 ≤ n by omega) (show n - (i + 1) < n - i by omega) _ _ _ hI (lv_sub hl [4, 5, 1, 0] rfl)
    · refine lv_iload hx hb dX3_idle_44 (lv_at hl 0 rfl) ?_
      refine lv_iload_n hx hb dX3_idle_46 rfl (lv_at hl 4 rfl) ?_
      refine m_ceqB (tgt := 58) hx hb dX3_idle_47 (by decide) (fun c_47 => ?_) (fun c_47 => ?_)
      · refine lv_iinc (v := nI ((idl uns T n i) + 1)) (lv' := [(1, .int (nI ((idl uns T n i) + 1))), (5, .int (bI (fb uns (T i) (fa uns T i)))), (4, .int (nI (T i))), (0, .ref (ad 0)), (2, .int (bI (fa uns T i))), (3, .int (nI i))]) hx hb dX3_idle_58 hl (k := 3) rfl (nI_add (idl uns T n i) 1) (by decide) rfl (fun ls hl => ?_)
        have hidb : idB uns T n i = true := by unfold idB; rw [c_41, decide_eq_true c_47]; rfl
        have hidn : idl uns T n (i + 1) = (idl uns T n i) + 1 := by show (if idB uns T n i then idl uns T n i + 1 else idl uns T n i) = _; rw [hidb] <;> rfl
        have hl : lv_has ls 6 [(1, .int (nI (idl uns T n (i + 1)))), (5, .int (bI (fb uns (T i) (fa uns T i)))), (4, .int (nI (T i))), (0, .ref (ad 0)), (2, .int (bI (fa uns T i))), (3, .int (nI i))] := by rw [hidn]; exact hl
        refine lv_iload hx hb dX3_idle_61 (lv_at hl 1 rfl) ?_
        refine lv_istore_n (lv' := [(2, .int (bI (fb uns (T i) (fa uns T i)))), (1, .int (nI (idl uns T n (i + 1)))), (5, .int (bI (fb uns (T i) (fa uns T i)))), (4, .int (nI (T i))), (0, .ref (ad 0)), (3, .int (nI i))]) hx hb dX3_idle_63 rfl hl (by decide) rfl (fun ls hl => ?_)
        refine lv_iinc (v := nI (i + 1)) (lv' := [(3, .int (nI (i + 1))), (2, .int (bI (fb uns (T i) (fa uns T i)))), (1, .int (nI (idl uns T n (i + 1)))), (5, .int (bI (fb uns (T i) (fa uns T i)))), (4, .int (nI (T i))), (0, .ref (ad 0))]) hx hb dX3_idle_64 hl (k := 5) rfl (nI_add i 1) (by decide) rfl (fun ls hl => ?_)
        refine lv_goto (tgt := 6) hx hb dX3_idle_67 (by decide) ?_
        exact ih6 (i + 1) (show i + 1 ≤ n by omega) (show n - (i + 1) < n - i by omega) _ _ _ hI (lv_sub hl [5, 2, 1, 0] rfl)
      · refine lv_aload_n hx hb dX3_idle_50 rfl (lv_at hl 2 rfl) ?_
        refine lv_iload_n hx hb dX3_idle_51 rfl (lv_at hl 5 rfl) ?_
        refine m_callVi (As := [.int (nI i)]) (rest := []) ⟨hx, hb, hml, hown, hts⟩ hE hI (c_X3_servesBehind k l ad N g _ rd fig uns came mis lost bel n T i (by omega) h0 (by omega) hT ⟨h48, h49⟩ (by omega)) (cwV 1 hts gX3_idle_X3_servesBehind rfl rfl rfl (by decide +kernel) ⟨Nat.le_of_ble_eq_true rfl, Nat.le_of_ble_eq_true rfl⟩) (i := 0) (by omega) h0 rfl rfl hl.1 rfl (Nat.le_of_ble_eq_true rfl) dX3_idle_52 ⟨Nat.le_of_ble_eq_true rfl, Nat.le_of_ble_eq_true rfl⟩ (m_deti (fun H locs hI => ?_))
        refine m_zneB (tgt := 61) hx hb dX3_idle_55 (by decide) (fun c_55 => ?_) (fun c_55 => ?_)
        · have hidb : idB uns T n i = false := by unfold idB; rw [c_41, c_55, decide_eq_false c_47]; rfl
          have hidn : idl uns T n (i + 1) = idl uns T n i := by show (if idB uns T n i then idl uns T n i + 1 else idl uns T n i) = _; rw [hidb] <;> rfl
          have hl : lv_has ls 6 [(5, .int (bI (fb uns (T i) (fa uns T i)))), (4, .int (nI (T i))), (0, .ref (ad 0)), (1, .int (nI (idl uns T n (i + 1)))), (2, .int (bI (fa uns T i))), (3, .int (nI i))] := by rw [hidn]; exact hl
          refine lv_iload hx hb dX3_idle_61 (lv_at hl 0 rfl) ?_
          refine lv_istore_n (lv' := [(2, .int (bI (fb uns (T i) (fa uns T i)))), (5, .int (bI (fb uns (T i) (fa uns T i)))), (4, .int (nI (T i))), (0, .ref (ad 0)), (1, .int (nI (idl uns T n (i + 1)))), (3, .int (nI i))]) hx hb dX3_idle_63 rfl hl (by decide) rfl (fun ls hl => ?_)
          refine lv_iinc (v := nI (i + 1)) (lv' := [(3, .int (nI (i + 1))), (2, .int (bI (fb uns (T i) (fa uns T i)))), (5, .int (bI (fb uns (T i) (fa uns T i)))), (4, .int (nI (T i))), (0, .ref (ad 0)), (1, .int (nI (idl uns T n (i + 1))))]) hx hb dX3_idle_64 hl (k := 5) rfl (nI_add i 1) (by decide) rfl (fun ls hl => ?_)
          refine lv_goto (tgt := 6) hx hb dX3_idle_67 (by decide) ?_
          exact ih6 (i + 1) (show i + 1 ≤ n by omega) (show n - (i + 1) < n - i by omega) _ _ _ hI (lv_sub hl [4, 5, 1, 0] rfl)
        · refine lv_iinc (v := nI ((idl uns T n i) + 1)) (lv' := [(1, .int (nI ((idl uns T n i) + 1))), (5, .int (bI (fb uns (T i) (fa uns T i)))), (4, .int (nI (T i))), (0, .ref (ad 0)), (2, .int (bI (fa uns T i))), (3, .int (nI i))]) hx hb dX3_idle_58 hl (k := 3) rfl (nI_add (idl uns T n i) 1) (by decide) rfl (fun ls hl => ?_)
          have hidb : idB uns T n i = true := by unfold idB; rw [c_41, c_55]; exact (Bool.true_and _).trans (Bool.or_true _)
          have hidn : idl uns T n (i + 1) = (idl uns T n i) + 1 := by show (if idB uns T n i then idl uns T n i + 1 else idl uns T n i) = _; rw [hidb] <;> rfl
          have hl : lv_has ls 6 [(1, .int (nI (idl uns T n (i + 1)))), (5, .int (bI (fb uns (T i) (fa uns T i)))), (4, .int (nI (T i))), (0, .ref (ad 0)), (2, .int (bI (fa uns T i))), (3, .int (nI i))] := by rw [hidn]; exact hl
          refine lv_iload hx hb dX3_idle_61 (lv_at hl 1 rfl) ?_
          refine lv_istore_n (lv' := [(2, .int (bI (fb uns (T i) (fa uns T i)))), (1, .int (nI (idl uns T n (i + 1)))), (5, .int (bI (fb uns (T i) (fa uns T i)))), (4, .int (nI (T i))), (0, .ref (ad 0)), (3, .int (nI i))]) hx hb dX3_idle_63 rfl hl (by decide) rfl (fun ls hl => ?_)
          refine lv_iinc (v := nI (i + 1)) (lv' := [(3, .int (nI (i + 1))), (2, .int (bI (fb uns (T i) (fa uns T i)))), (1, .int (nI (idl uns T n (i + 1)))), (5, .int (bI (fb uns (T i) (fa uns T i)))), (4, .int (nI (T i))), (0, .ref (ad 0))]) hx hb dX3_idle_64 hl (k := 5) rfl (nI_add i 1) (by decide) rfl (fun ls hl => ?_)
          refine lv_goto (tgt := 6) hx hb dX3_idle_67 (by decide) ?_
          exact ih6 (i + 1) (show i + 1 ≤ n by omega) (show n - (i + 1) < n - i by omega) _ _ _ hI (lv_sub hl [5, 2, 1, 0] rfl)
