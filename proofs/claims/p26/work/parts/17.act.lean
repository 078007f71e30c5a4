/-! The two machines side by side, and what is done to both. -/
theorem CW.play {play rd n p1 : Nat} {lat : Nat → Int32} {gar T : Nat → Nat} (h : CW play rd n lat gar T) (hp : p1 ≤ 9) : CW p1 rd n lat gar T := ⟨hp, h.2⟩
theorem CW.line {play rd n j q : Nat} {lat : Nat → Int32} {gar T : Nat → Nat} {x : Int32} (h : CW play rd n lat gar T) (hq : q < 32) (hx : -9 ≤ x ∧ x ≤ 9) : CW play rd n (upd lat j x) (va_up gar j q) T :=
  ⟨h.1, h.2.1, h.2.2.1, fun i hi => by unfold va_up; split <;> first | exact hq | exact h.2.2.2.1 i hi, h.2.2.2.2.1, fun i => by unfold upd; split <;> first | exact hx | exact h.2.2.2.2.2 i⟩
theorem CW.rub {play rd n j q : Nat} {lat : Nat → Int32} {gar T : Nat → Nat} (h : CW play rd n lat gar T) (hq : q < 32) : CW play rd n lat gar (va_up T j q) :=
  ⟨h.1, h.2.1, h.2.2.1, h.2.2.2.1, fun i => by unfold va_up; split <;> first | exact hq | exact h.2.2.2.2.1 i, h.2.2.2.2.2⟩
theorem CW.punch {play rd n q : Nat} {lat : Nat → Int32} {gar T : Nat → Nat} (h : CW play rd n lat gar T) (hn : n < 120) (hq : q < 32) : CW play rd (n + 1) lat gar (va_up T n q) := by
  obtain ⟨h1, h2, h3, h4, h5, h6⟩ := h
  exact ⟨h1, by omega, by omega, h4, fun i => by unfold va_up; split <;> first | exact hq | exact h5 i, h6⟩
theorem CW.type {play rd n x : Nat} {lat : Nat → Int32} {gar T : Nat → Nat} {uns : Bool} (h : CW play rd n lat gar T) (hx : x < 55) (hn : n + tyN uns T n x ≤ 120) : CW play rd (n + tyN uns T n x) lat gar (tyT uns T n x) := by
  unfold tyN tyT
  unfold tyN at hn
  cases hs : tyS uns T n x with
  | false =>
    rw [hs] at hn
    have hn : n + 1 ≤ 120 := hn
    exact CW.punch h (by omega) (cd_lt x hx)
  | true =>
    rw [hs] at hn
    have hn : n + 2 ≤ 120 := hn
    exact CW.punch (CW.punch h (by omega) (by split <;> omega)) (by omega) (cd_lt x hx)
theorem slt_ne {fi a b : Nat} (ha : a < 20) (hb : b < 20) (h : a ≠ b) : slt fi a ≠ slt fi b := by
  unfold slt
  omega
theorem slt_slt {fi l : Nat} : slt (slt fi 1) l = slt fi (l + 1) := by
  unfold slt
  omega
theorem slt_20 {fi : Nat} (h : fi < 20) : slt fi 20 = fi := by
  unfold slt
  omega
theorem slt_fi {fi l : Nat} (h : fi < 20) (h1 : l < 19) : slt fi (l + 1) ≠ fi := by
  unfold slt
  omega
/-- the class's page and Sim's -/
abbrev PgS (p : PC) (q : PS) : Prop := q.1 = p.2.1 ∧ (∀ l, l < p.2.1 → p.2.2.1 (slt p.1 l) = q.2.1 l) ∧ ∀ l, l < p.2.1 → ∀ i, i < q.2.1 l → p.2.2.2 (slt p.1 l) i = q.2.2 l i
theorem PgS_nl {fi u : Nat} {z : Nat → Nat} {F : Nat → Nat → Nat} {u' : Nat} {ln : Nat → Nat} {pg : Nat → Nat → Nat} (hc : cWf (fi, u, z, F)) (hm : sWf (u', ln, pg)) (h : PgS (fi, u, z, F) (u', ln, pg)) : PgS (cNl (fi, u, z, F)) (sNl (u', ln, pg)) := by
  obtain ⟨h1, h2, h3⟩ := h
  have h1 : u' = u := h1
  have h2 : ∀ l, l < u → z (slt fi l) = ln l := h2
  have h3 : ∀ l, l < u → ∀ i, i < ln l → F (slt fi l) i = pg l i := h3
  subst h1
  have hf : fi < 20 := hc.1
  have hu : u' ≤ 20 := hm.2.1
  by_cases h20 : u' < 20
  · have e1 : cNl (fi, u', z, F) = (fi, u' + 1, va_up z (slt fi u') 0, F) := by unfold cNl; exact if_pos h20
    have e2 : sNl (u', ln, pg) = (u' + 1, va_up ln u' 0, pg) := by unfold sNl; exact if_neg (by show ¬ u' = 20; omega)
    rw [e1, e2]
    refine ⟨rfl, fun l hl => ?_, fun l hl i hi => ?_⟩
    · have hl : l < u' + 1 := hl
      show va_up z (slt fi u') 0 (slt fi l) = va_up ln u' 0 l
      by_cases hlu : l = u'
      · subst hlu; rw [va_up_self, va_up_self]
      · rw [va_up_ne _ _ (slt_ne (by omega) h20 hlu), va_up_ne _ _ hlu]; exact h2 l (by omega)
    · have hl : l < u' + 1 := hl
      have hi : i < va_up ln u' 0 l := hi
      by_cases hlu : l = u'
      · subst hlu; rw [va_up_self] at hi; omega
      · rw [va_up_ne _ _ hlu] at hi
        exact h3 l (by omega) i hi
  · have hu20 : u' = 20 := by omega
    subst hu20
    have e1 : cNl (fi, 20, z, F) = (slt fi 1, 20, va_up z fi 0, F) := by unfold cNl; exact if_neg (show ¬ 20 < 20 by decide)
    have e2 : sNl (20, ln, pg) = (20, va_up (fun l => ln (l + 1)) 19 0, fun l => pg (l + 1)) := by unfold sNl; exact if_pos rfl
    rw [e1, e2]
    refine ⟨rfl, fun l hl => ?_, fun l hl i hi => ?_⟩
    · have hl : l < 20 := hl
      show va_up z fi 0 (slt (slt fi 1) l) = va_up (fun l => ln (l + 1)) 19 0 l
      rw [slt_slt]
      by_cases hl19 : l = 19
      · subst hl19; rw [slt_20 hf, va_up_self, va_up_self]
      · rw [va_up_ne _ _ (slt_fi hf (by omega)), va_up_ne _ _ hl19, h2 (l + 1) (by omega)]
    · have hl : l < 20 := hl
      have hi : i < va_up (fun l => ln (l + 1)) 19 0 l := hi
      show F (slt (slt fi 1) l) i = pg (l + 1) i
      rw [slt_slt]
      by_cases hl19 : l = 19
      · subst hl19; rw [va_up_self] at hi; omega
      · rw [va_up_ne _ _ hl19] at hi
        exact h3 (l + 1) (by omega) i hi
theorem PgS_full {fi u : Nat} {z : Nat → Nat} {F : Nat → Nat → Nat} {u' : Nat} {ln : Nat → Nat} {pg : Nat → Nat → Nat} (hc : cWf (fi, u, z, F)) (h : PgS (fi, u, z, F) (u', ln, pg)) : cFull (fi, u, z, F) = sFull (u', ln, pg) := by
  obtain ⟨h1, h2, h3⟩ := h
  have h1 : u' = u := h1
  have h0 : 0 < u := hc.2.1
  have h2 : ∀ l, l < u → z (slt fi l) = ln l := h2
  subst h1
  show decide (z (slt fi (u' - 1)) = 40) = decide (ln (u' - 1) = 40)
  rw [h2 (u' - 1) (by omega)]
theorem PgS_add {fi u : Nat} {z : Nat → Nat} {F : Nat → Nat → Nat} {u' : Nat} {ln : Nat → Nat} {pg : Nat → Nat → Nat} (ch : Nat) (hc : cWf (fi, u, z, F)) (hm : sWf (u', ln, pg)) (h : PgS (fi, u, z, F) (u', ln, pg)) : PgS (cAdd (fi, u, z, F) ch) (sAdd (u', ln, pg) ch) := by
  obtain ⟨h1, h2, h3⟩ := h
  have h1 : u' = u := h1
  have h0 : 0 < u := hc.2.1
  have h2 : ∀ l, l < u → z (slt fi l) = ln l := h2
  have h3 : ∀ l, l < u → ∀ i, i < ln l → F (slt fi l) i = pg l i := h3
  subst h1
  have hu : u' ≤ 20 := hm.2.1
  have e0 := h2 (u' - 1) (by omega)
  refine ⟨rfl, fun l hl => ?_, fun l hl i hi => ?_⟩
  · have hl : l < u' := hl
    show va_up z (slt fi (u' - 1)) (z (slt fi (u' - 1)) + 1) (slt fi l) = va_up ln (u' - 1) (ln (u' - 1) + 1) l
    by_cases hlu : l = u' - 1
    · subst hlu; rw [va_up_self, va_up_self, e0]
    · rw [va_up_ne _ _ (slt_ne (by omega) (by omega) hlu), va_up_ne _ _ hlu]; exact h2 l hl
  · have hl : l < u' := hl
    have hi : i < va_up ln (u' - 1) (ln (u' - 1) + 1) l := hi
    show va_up F (slt fi (u' - 1)) (va_up (F (slt fi (u' - 1))) (z (slt fi (u' - 1))) ch) (slt fi l) i = va_up pg (u' - 1) (va_up (pg (u' - 1)) (ln (u' - 1)) ch) l i
    by_cases hlu : l = u' - 1
    · subst hlu
      rw [va_up_self] at hi
      rw [va_up_self, va_up_self, e0]
      by_cases hii : i = ln (u' - 1)
      · subst hii; rw [va_up_self, va_up_self]
      · rw [va_up_ne _ _ hii, va_up_ne _ _ hii]; exact h3 _ hl i (by omega)
    · rw [va_up_ne _ _ hlu] at hi
      rw [va_up_ne _ _ (slt_ne (by omega) (by omega) hlu), va_up_ne _ _ hlu]
      exact h3 l hl i hi
theorem PgS_ob {p : PC} {q : PS} (ch : Nat) (hc : cWf p) (hm : sWf q) (h : PgS p q) : PgS (pOb cNl cFull cAdd ch p) (pOb sNl sFull sAdd ch q) := by
  obtain ⟨fi, u, z, F⟩ := p
  obtain ⟨u', ln, pg⟩ := q
  unfold pOb
  by_cases h54 : ch = 54
  · rw [if_pos h54, if_pos h54]; exact PgS_nl hc hm h
  · rw [if_neg h54, if_neg h54]
    by_cases h0 : ch = 0
    · rw [if_pos h0, if_pos h0]; exact h
    · rw [if_neg h0, if_neg h0, PgS_full hc h]
      by_cases hf : sFull (u', ln, pg) = true
      · rw [if_pos hf, if_pos hf]; exact h
      · rw [if_neg hf, if_neg hf]; exact PgS_add ch hc hm h
theorem PgS_lost {p : PC} {q : PS} (ch : Nat) (lost : Int32) (hc : cWf p) (h : PgS p q) : lOb cFull ch p lost = lOb sFull ch q lost := by
  obtain ⟨fi, u, z, F⟩ := p
  obtain ⟨u', ln, pg⟩ := q
  unfold lOb
  rw [PgS_full hc h]
abbrev YRS (y : YT PC) (v : YT PS) : Prop := y.1 = v.1 ∧ y.2.1 = v.2.1 ∧ y.2.2.1 = v.2.2.1 ∧ y.2.2.2.1 = v.2.2.2.1 ∧ y.2.2.2.2.1 = v.2.2.2.2.1 ∧ PgS y.2.2.2.2.2 v.2.2.2.2.2
theorem YRS_ob {y : YT PC} {v : YT PS} (uns : Bool) (co : Nat) (hc : cWf y.2.2.2.2.2) (hm : sWf v.2.2.2.2.2) (h : YRS y v) : YRS (yOb cNl cFull cAdd uns co y) (yOb sNl sFull sAdd uns co v) := by
  obtain ⟨came, mis, lost, bel, fig, p⟩ := y
  obtain ⟨came', mis', lost', bel', fig', q⟩ := v
  obtain ⟨h1, h2, h3, h4, h5, h6⟩ := h
  have h1 : came = came' := h1
  have h2 : mis = mis' := h2
  have h3 : lost = lost' := h3
  have h4 : bel = bel' := h4
  have h5 : fig = fig' := h5
  subst h1 h2 h3 h4 h5
  exact ⟨rfl, rfl, PgS_lost _ _ hc h6, rfl, rfl, PgS_ob _ hc hm h6⟩
theorem YRS_in {y : YT PC} {v : YT PS} (uns : Bool) (play : Nat) (lat : Nat → Int32) (gar : Nat → Nat) (co : Nat) (hc : cWf y.2.2.2.2.2) (hm : sWf v.2.2.2.2.2) (h : YRS y v) : YRS (yIn cNl cFull cAdd uns play lat gar co y) (yIn sNl sFull sAdd uns play lat gar co v) := by
  obtain ⟨came, mis, lost, bel, fig, p⟩ := y
  obtain ⟨came', mis', lost', bel', fig', q⟩ := v
  obtain ⟨h1, h2, h3, h4, h5, h6⟩ := h
  have h1 : came = came' := h1
  have h2 : mis = mis' := h2
  have h3 : lost = lost' := h3
  have h4 : bel = bel' := h4
  have h5 : fig = fig' := h5
  subst h1 h2 h3 h4 h5
  exact YRS_ob (y := (came + 1, (if rdY play lat gar came co = co then mis else mis + 1), lost, bel, fig, p)) (v := (came + 1, (if rdY play lat gar came co = co then mis else mis + 1), lost, bel, fig, q)) uns _ hc hm ⟨rfl, rfl, rfl, rfl, rfl, h6⟩
theorem sWf_run {uns : Bool} {play : Nat} {lat : Nat → Int32} {gar T : Nat → Nat} {rd : Nat} {y : YT PS} (h : sWf y.2.2.2.2.2) (m : Nat) : sWf (yRun sNl sFull sAdd uns play lat gar T rd y m).2.2.2.2.2 := by
  induction m with
  | zero => exact h
  | succ m ih => exact sWf_in ih
theorem YRS_run {y : YT PC} {v : YT PS} (uns : Bool) (play : Nat) (lat : Nat → Int32) (gar T : Nat → Nat) (rd : Nat) (hc : cWf y.2.2.2.2.2) (hm : sWf v.2.2.2.2.2) (h : YRS y v) (m : Nat) : YRS (yRun cNl cFull cAdd uns play lat gar T rd y m) (yRun sNl sFull sAdd uns play lat gar T rd v m) := by
  induction m with
  | zero => exact h
  | succ m ih => exact YRS_in uns play lat gar _ (cWf_run hc m) (sWf_run hm m) ih
/-- both machines, in one state; at most cm codes came -/
def ST (k : mC) (ad : Nat → Nat) (bs N : Nat) (g : Nat → va_E) (cm : Nat) : Prop := ∃ (uns : Bool) (play rd n : Nat) (lat : Nat → Int32) (gar T : Nat → Nat) (y : YT PC) (v : YT PS) (r : Nat → Option Nat),
  CR k ad g uns play rd n lat gar T y r ∧ SR k ad bs N g uns play rd n lat gar T v ∧ CW play rd n lat gar T ∧ cWf y.2.2.2.2.2 ∧ sWf v.2.2.2.2.2 ∧ YRS y v ∧ y.1 ≤ cm
theorem ST.le {k : mC} {ad : Nat → Nat} {bs N : Nat} {g : Nat → va_E} {c1 c2 : Nat} (h : ST k ad bs N g c1) (hc : c1 ≤ c2) : ST k ad bs N g c2 := by
  obtain ⟨uns, play, rd, n, lat, gar, T, y, v, r, h1, h2, h3, h4, h5, h6, h7⟩ := h
  exact ⟨uns, play, rd, n, lat, gar, T, y, v, r, h1, h2, h3, h4, h5, h6, by omega⟩
theorem dep53 : ∀ x, x < 55 → 1 ≤ x → dep (cd x) = decide (x < 53) := by decide +kernel
theorem tyS_lt {uns : Bool} {T : Nat → Nat} {n x : Nat} (h1 : 1 ≤ x) (h2 : x < 55) (h : tyS uns T n x = true) : x < 53 := by
  unfold tyS at h
  rw [dep53 x h2 h1] at h
  by_cases h3 : x < 53
  · exact h3
  · rw [decide_eq_false h3] at h; cases h
theorem in9_sub : ∀ j, j < 19 → in9 (nI j - nI 9) = true := by decide +kernel
theorem in9_b {x : Int32} (h : in9 x = true) : -9 ≤ x ∧ x ≤ 9 := by
  simp only [in9, Bool.and_eq_true, decide_eq_true_eq] at h
  exact h
theorem in120_nI : ∀ j, j < 121 → 1 ≤ j → in120 (nI j) = true := by decide +kernel
theorem inC_nI : ∀ j, j < 55 → 1 ≤ j → inC (nI j) = true := by decide +kernel

set_option maxHeartbeats 8000000 in
set_option maxRecDepth 100000 in
theorem c_L_act (k : mC) (l : Launch) (ad : Nat → Nat) (N : Nat) (g : Nat → va_E) (sz : Nat) (bs cm : Nat) (p0 : Int32) (hst : l.stackTraces = false) (hcm : cm ≤ 100000) (hST : ST k ad bs N g cm) : mGi k l yL_act wsL_act { frames := 7, cells := 481, slots := 8406, locals := 130 } ad N g sz 481 8406 [.ref (ad 0), .ref (ad 50), .int p0] (fun (r : Int32) (ad1 : Nat → Nat) (N1 : Nat) (g1 : Nat → va_E) => r = bI true ∧ FRA ad g bs ad1 g1 ∧ ST k ad1 bs N1 g1 (cm + 120)) := by
  show Met l yL_act wsL_act { frames := 7, cells := 481, slots := 8406, locals := 130 } (mPc k ad N g sz [.ref (ad 0), .ref (ad 50), .int p0]) (va_Qi (S := mU) (fun r w9 => (fun (r : Int32) (ad1 : Nat → Nat) (N1 : Nat) (g1 : Nat → va_E) => r = bI true ∧ FRA ad g bs ad1 g1 ∧ ST k ad1 bs N1 g1 (cm + 120)) r w9.1 w9.2.1 w9.2.2) (mBg k (mA ad N sz)) (mA ad N sz)) 481 8406 (mA ad N sz)
  refine mOfG (Qc := fun z9 => va_Qi (S := mU) (fun r w9 => (fun (r : Int32) (ad1 : Nat → Nat) (N1 : Nat) (g1 : Nat → va_E) => r = bI true ∧ FRA ad g bs ad1 g1 ∧ ST k ad1 bs N1 g1 (cm + 120)) r w9.1 w9.2.1 w9.2.2) (mBg k (mA ad N z9)) (mA ad N z9)) (cc := cL_act) (maxL := 17) (ret := (some .boolean)) (by decide) rfl (Nat.le_of_ble_eq_true rfl) ?_
  intro p e s m below meth c hx hb hr hts hown hlocks hml hin H locs hH hE hI ls hl
  have hl : lv_has ls 17 [(0, .ref (ad 0)), (1, .ref (ad 50)), (2, .int p0)] := hl
  obtain ⟨uns, play, rd, n, lat, gar, T, ⟨came, mis, lost, bel, fig, fi, u, z, F⟩, ⟨came1, mis1, lost1, bel1, fig1, u1, ln, pg⟩, r, hC, hS, hW, hwf, hwv, hYR, hcm9⟩ := hST
  obtain ⟨e1, e2, e3, e4, e5, e6⟩ := id hYR
  have e1 : came = came1 := e1
  subst e1
  have e2 : mis = mis1 := e2
  subst e2
  have e3 : lost = lost1 := e3
  subst e3
  have e4 : bel = bel1 := e4
  subst e4
  have e5 : fig = fig1 := e5
  subst e5
  have e7 : u = u1 := e6.1.symm
  subst e7
  have hcm9 : came ≤ cm := hcm9
  have hwf : cWf (fi, u, z, F) := hwf
  have hwv : sWf (u, ln, pg) := hwv
  have hC : CR k ad g uns play rd n lat gar T (came, mis, lost, bel, fig, fi, u, z, F) r := hC
  have hS : SR k ad bs N g uns play rd n lat gar T (came, mis, lost, bel, fig, u, ln, pg) := hS
  have hbs : 57 ≤ bs := hS.1.1
  have hNu : bs + u ≤ N := hS.1.2
  have hF : FRA ad g bs ad g := FRA.rf
  obtain ⟨hpl9, hrd9, hn120, hgar9, hT, hlat9⟩ := id hW
  obtain ⟨ap, hap⟩ : ∃ zz, ad 0 = zz := ⟨_, rfl⟩
  obtain ⟨aS, haS⟩ : ∃ zz, ad 50 = zz := ⟨_, rfl⟩
  have hl : lv_has ls 17 [(0, .ref ap), (1, .ref aS), (2, .int p0)] := by rw [← hap, ← haS]; exact hl
  refine lv_aload_n hx hb dL_act_0 rfl (lv_at hl 1 rfl) ?_
  refine m_stk (show ([.ref aS] : List Value) = [.ref (ad 50)] from by rw [haS]) ?_
  refine m_get (ci := 4) (C := RX4) (T := TX4) (N' := 14) hx hb hts (by decide +kernel) hown hE hI 50 (by omega) (show g 50 = .inr (4, [.ref (ad 51), .ref (ad 52), .ref (ad 53), .int (bI fig), .int (bI uns), .int (nI play), .ref (ad 54), .ref (ad 55), .ref (ad 56), .int (nI rd), .int (nI came), .int mis, .int lost, .int bel]) from hS.2.1) rfl 8 (by decide) (hts (.fieldLink RL 19 "TapePrinterLaw$Sim" "tape" "[I") (by decide +kernel)) rfl dL_act_1 ?_
  refine m_aleni hx hb hE hI 56 (by omega) (show g 56 = .inl (k.2.1.1, n, .inl (fun j => nI (T j))) from hS.2.2.2.2.2.2.2.1) dL_act_4 ?_
  refine lv_istore_n (lv' := [(3, .int (nI n)), (0, .ref ap), (1, .ref aS), (2, .int p0)]) hx hb dL_act_5 rfl hl (by decide) rfl (fun ls hl => ?_)
  refine lv_iload_n hx hb dL_act_6 rfl (lv_at hl 3 rfl) ?_
  refine lv_iconst (v := nI 2) hx hb dL_act_7 (by decide) ?_
  refine lv_ishr hx hb dL_act_8 ?_
  refine lv_bipush (v := nI 32) hx hb dL_act_9 (by decide) ?_
  refine m_callSi (As := [.int (p0 >>> ((nI 2) &&& 31)), .int (nI 32)]) (rest := []) ⟨hx, hb, hml, hown, hts⟩ hE hI (c_L_below k l ad N g _ (p0 >>> ((nI 2) &&& 31)) 32 (by omega) (by omega)) (va_cwS 2 hts gL_act_L_below rfl rfl rfl (by decide +kernel) ⟨Nat.le_of_ble_eq_true rfl, Nat.le_of_ble_eq_true rfl⟩) rfl hl.1 rfl (Nat.le_of_ble_eq_true rfl) dL_act_11 ⟨(by show _ ≤ 481; omega), (by show _ ≤ 8406; omega)⟩ (m_deti (fun H locs hI => ?_))
  have hbw_1 := blw_lt (v := p0 >>> ((nI 2) &&& 31)) (b := 32) (by omega)
  obtain ⟨co4, hco4⟩ : ∃ zz, zz = blw (p0 >>> ((nI 2) &&& 31)) 32 := ⟨_, rfl⟩
  refine m_top (show nI (blw (p0 >>> ((nI 2) &&& 31)) 32) = nI co4 from by rw [hco4]) ?_
  have hbco4 : co4 < 32 := by rw [hco4]; omega
  refine lv_istore (lv' := [(4, .int (nI co4)), (3, .int (nI n)), (0, .ref ap), (1, .ref aS), (2, .int p0)]) hx hb dL_act_14 hl (by decide) rfl (fun ls hl => ?_)
  refine lv_iload_n hx hb dL_act_16 rfl (lv_at hl 4 rfl) ?_
  refine lv_bipush (v := nI 9) hx hb dL_act_17 (by decide) ?_
  refine lv_ishr hx hb dL_act_19 ?_
  refine lv_bipush (v := nI 18) hx hb dL_act_20 (by decide) ?_
  refine m_callSi (As := [.int (p0 >>> ((nI 9) &&& 31)), .int (nI 18)]) (rest := []) ⟨hx, hb, hml, hown, hts⟩ hE hI (c_L_below k l ad N g _ (p0 >>> ((nI 9) &&& 31)) 18 (by omega) (by omega)) (va_cwS 2 hts gL_act_L_below rfl rfl rfl (by decide +kernel) ⟨Nat.le_of_ble_eq_true rfl, Nat.le_of_ble_eq_true rfl⟩) rfl hl.1 rfl (Nat.le_of_ble_eq_true rfl) dL_act_22 ⟨(by show _ ≤ 481; omega), (by show _ ≤ 8406; omega)⟩ (m_deti (fun H locs hI => ?_))
  have hbw_2 := blw_lt (v := p0 >>> ((nI 9) &&& 31)) (b := 18) (by omega)
  obtain ⟨s9, hs9⟩ : ∃ zz, zz = blw (p0 >>> ((nI 9) &&& 31)) 18 := ⟨_, rfl⟩
  refine m_top (show nI (blw (p0 >>> ((nI 9) &&& 31)) 18) = nI s9 from by rw [hs9]) ?_
  have hbs9 : s9 < 18 := by rw [hs9]; omega
  refine m_via hI 269 [] (fun K269 => ?_) (fun H locs hI => ?_)
  · refine m_via hI 318 [] (fun K318 => ?_) (fun H locs hI => ?_)
    · refine m_via hI 357 [] (fun K357 => ?_) (fun H locs hI => ?_)
      · refine m_via hI 601 [] (fun K601 => ?_) (fun H locs hI => ?_)
        · have hsw : s9 = 0 ∨ s9 = 1 ∨ s9 = 2 ∨ s9 = 3 ∨ s9 = 4 ∨ s9 = 5 ∨ s9 = 6 ∨ s9 = 7 ∨ s9 = 8 ∨ s9 = 9 ∨ s9 = 10 ∨ s9 = 11 ∨ s9 = 12 ∨ s9 = 13 ∨ s9 = 14 ∨ s9 = 15 ∨ s9 = 16 ∨ s9 = 17 := by omega
          rcases hsw with rfl | rfl | rfl | rfl | rfl | rfl | rfl | rfl | rfl | rfl | rfl | rfl | rfl | rfl | rfl | rfl | rfl | rfl
          · refine lv_tableIn (tgt := 96) hx hb dL_act_25 (by decide) (by decide) (off := 71) (by decide) (by decide) ?_
            refine lv_iload_n hx hb dL_act_96 rfl (lv_at hl 4 rfl) ?_
            refine lv_bipush (v := nI 16) hx hb dL_act_97 (by decide) ?_
            refine m_callSi (As := [.int p0, .int (nI 16)]) (rest := []) ⟨hx, hb, hml, hown, hts⟩ hE hI (c_L_below k l ad N g _ p0 16 (by omega) (by omega)) (va_cwS 2 hts gL_act_L_below rfl rfl rfl (by decide +kernel) ⟨Nat.le_of_ble_eq_true rfl, Nat.le_of_ble_eq_true rfl⟩) rfl hl.1 rfl (Nat.le_of_ble_eq_true rfl) dL_act_99 ⟨(by show _ ≤ 481; omega), (by show _ ≤ 8406; omega)⟩ (m_deti (fun H locs hI => ?_))
            have hbw_3 := blw_lt (v := p0) (b := 16) (by omega)
            obtain ⟨pl, hpl⟩ : ∃ zz, zz = blw p0 16 := ⟨_, rfl⟩
            refine m_top (show nI (blw p0 16) = nI pl from by rw [hpl]) ?_
            have hbpl : pl < 16 := by rw [hpl]; omega
            refine lv_istore (lv' := [(5, .int (nI pl)), (4, .int (nI co4)), (3, .int (nI n)), (0, .ref ap), (1, .ref aS), (2, .int p0)]) hx hb dL_act_102 hl (by decide) rfl (fun ls hl => ?_)
            refine lv_aload_n hx hb dL_act_104 rfl (lv_at hl 4 rfl) ?_
            refine m_stk (show ([.ref aS] : List Value) = [.ref (ad 50)] from by rw [haS]) ?_
            refine m_get (ci := 4) (C := RX4) (T := TX4) (N' := 14) hx hb hts (by decide +kernel) hown hE hI 50 (by omega) (show g 50 = .inr (4, [.ref (ad 51), .ref (ad 52), .ref (ad 53), .int (bI fig), .int (bI uns), .int (nI play), .ref (ad 54), .ref (ad 55), .ref (ad 56), .int (nI rd), .int (nI came), .int mis, .int lost, .int bel]) from hS.2.1) rfl 6 (by decide) (hts (.fieldLink RL 29 "TapePrinterLaw$Sim" "late" "[I") (by decide +kernel)) rfl dL_act_105 ?_
            refine lv_iload hx hb dL_act_108 (lv_at hl 0 rfl) ?_
            refine m_iald hx hb hE hI 54 (by omega) (j := pl) (show g 54 = .inl (k.2.1.1, 16, .inl lat) from hS.2.2.2.2.2.1) (by omega) (by omega) dL_act_110 ?_
            refine lv_istore (lv' := [(6, .int (lat pl)), (5, .int (nI pl)), (4, .int (nI co4)), (3, .int (nI n)), (0, .ref ap), (1, .ref aS), (2, .int p0)]) hx hb dL_act_111 hl (by decide) rfl (fun ls hl => ?_)
            refine lv_aload_n hx hb dL_act_113 rfl (lv_at hl 5 rfl) ?_
            refine m_stk (show ([.ref aS] : List Value) = [.ref (ad 50)] from by rw [haS]) ?_
            refine m_get (ci := 4) (C := RX4) (T := TX4) (N' := 14) hx hb hts (by decide +kernel) hown hE hI 50 (by omega) (show g 50 = .inr (4, [.ref (ad 51), .ref (ad 52), .ref (ad 53), .int (bI fig), .int (bI uns), .int (nI play), .ref (ad 54), .ref (ad 55), .ref (ad 56), .int (nI rd), .int (nI came), .int mis, .int lost, .int bel]) from hS.2.1) rfl 6 (by decide) (hts (.fieldLink RL 29 "TapePrinterLaw$Sim" "late" "[I") (by decide +kernel)) rfl dL_act_114 ?_
            refine lv_iload hx hb dL_act_117 (lv_at hl 1 rfl) ?_
            refine lv_iload_n hx hb dL_act_119 rfl (lv_at hl 6 rfl) ?_
            refine lv_iconst (v := nI 4) hx hb dL_act_120 (by decide) ?_
            refine lv_ishr hx hb dL_act_121 ?_
            refine lv_bipush (v := nI 19) hx hb dL_act_122 (by decide) ?_
            refine m_callSi (As := [.int (p0 >>> ((nI 4) &&& 31)), .int (nI 19)]) (rest := [.int (nI pl), .ref (ad 54)]) ⟨hx, hb, hml, hown, hts⟩ hE hI (c_L_below k l ad N g _ (p0 >>> ((nI 4) &&& 31)) 19 (by omega) (by omega)) (va_cwS 2 hts gL_act_L_below rfl rfl rfl (by decide +kernel) ⟨Nat.le_of_ble_eq_true rfl, Nat.le_of_ble_eq_true rfl⟩) rfl hl.1 rfl (Nat.le_of_ble_eq_true rfl) dL_act_124 ⟨(by show _ ≤ 481; omega), (by show _ ≤ 8406; omega)⟩ (m_deti (fun H locs hI => ?_))
            have hbw_4 := blw_lt (v := p0 >>> ((nI 4) &&& 31)) (b := 19) (by omega)
            refine lv_bipush (v := nI 9) hx hb dL_act_127 (by decide) ?_
            refine lv_isub hx hb dL_act_129 ?_
            obtain ⟨lt9, hlt9⟩ : ∃ zz, zz = nI (blw (p0 >>> ((nI 4) &&& 31)) 19) - nI 9 := ⟨_, rfl⟩
            refine m_top (show nI (blw (p0 >>> ((nI 4) &&& 31)) 19) - nI 9 = lt9 from by rw [hlt9]) ?_
            have hin9 : in9 lt9 = true := by rw [hlt9]; exact in9_sub _ (by omega)
            refine m_iast hx hb hE hI 54 (by omega) (j := pl) (show g 54 = .inl (k.2.1.1, 16, .inl lat) from hS.2.2.2.2.2.1) (by omega) (by omega) dL_act_130 (fun H locs hI => ?_)
            obtain ⟨g1, hg1⟩ : ∃ zz, zz = va_up g 54 (.inl (k.2.1.1, 16, .inl (upd lat pl lt9))) := ⟨_, rfl⟩
            replace hI : mI k ad N g1 (mA ad N s.heap.size) s H locs := by rw [hg1]; exact hI
            have hS : SR k ad bs N g1 uns play rd n (upd lat pl lt9) gar T (came, mis, lost, bel, fig, u, ln, pg) := by rw [hg1]; exact SR.slat hS
            have hC : CR k ad g1 uns play rd n lat gar T (came, mis, lost, bel, fig, fi, u, z, F) r := by rw [hg1]; exact CR.kept hC (fun i hi => va_up_ne _ _ (by omega))
            have hF : FRA ad g bs ad g1 := by rw [hg1]; exact FRA.up hF (by omega)
            refine lv_aload_n hx hb dL_act_131 rfl (lv_at hl 5 rfl) ?_
            refine m_stk (show ([.ref aS] : List Value) = [.ref (ad 50)] from by rw [haS]) ?_
            refine m_get (ci := 4) (C := RX4) (T := TX4) (N' := 14) hx hb hts (by decide +kernel) hown hE hI 50 (by omega) (show g1 50 = .inr (4, [.ref (ad 51), .ref (ad 52), .ref (ad 53), .int (bI fig), .int (bI uns), .int (nI play), .ref (ad 54), .ref (ad 55), .ref (ad 56), .int (nI rd), .int (nI came), .int mis, .int lost, .int bel]) from hS.2.1) rfl 7 (by decide) (hts (.fieldLink RL 32 "TapePrinterLaw$Sim" "garble" "[I") (by decide +kernel)) rfl dL_act_132 ?_
            refine lv_iload hx hb dL_act_135 (lv_at hl 1 rfl) ?_
            refine lv_iload_n hx hb dL_act_137 rfl (lv_at hl 6 rfl) ?_
            refine lv_bipush (v := nI 6) hx hb dL_act_138 (by decide) ?_
            refine lv_ishr hx hb dL_act_140 ?_
            refine lv_iconst (v := nI 3) hx hb dL_act_141 (by decide) ?_
            refine m_callSi (As := [.int (p0 >>> ((nI 6) &&& 31)), .int (nI 3)]) (rest := [.int (nI pl), .ref (ad 55)]) ⟨hx, hb, hml, hown, hts⟩ hE hI (c_L_below k l ad N g1 _ (p0 >>> ((nI 6) &&& 31)) 3 (by omega) (by omega)) (va_cwS 2 hts gL_act_L_below rfl rfl rfl (by decide +kernel) ⟨Nat.le_of_ble_eq_true rfl, Nat.le_of_ble_eq_true rfl⟩) rfl hl.1 rfl (Nat.le_of_ble_eq_true rfl) dL_act_142 ⟨(by show _ ≤ 481; omega), (by show _ ≤ 8406; omega)⟩ (m_deti (fun H locs hI => ?_))
            have hbw_5 := blw_lt (v := p0 >>> ((nI 6) &&& 31)) (b := 3) (by omega)
            have hbp := blw_lt (v := p0) (b := 32) (by omega)
            obtain ⟨q9, hq9⟩ : ∃ zz, zz = if blw (p0 >>> ((nI 6) &&& 31)) 3 = 0 then blw p0 32 else 0 := ⟨_, rfl⟩
            have hbq9 : q9 < 32 := by rw [hq9]; split <;> omega
            refine m_via hI 158 ([.int (nI q9), .int (nI pl), .ref (ad 55)]) (fun K => ?_) (fun H locs hI => ?_)
            · refine m_zneN (tgt := 157) hx hb (by omega) dL_act_145 (by decide) (fun c_145 => ?_) (fun c_145 => ?_)
              · refine lv_iconst (v := nI 0) hx hb dL_act_157 (by decide) ?_
                refine m_top (show nI 0 = nI q9 from by rw [hq9, if_neg c_145]) ?_
                exact K H locs hI
              · refine lv_iload_n hx hb dL_act_148 rfl (lv_at hl 6 rfl) ?_
                refine lv_bipush (v := nI 32) hx hb dL_act_149 (by decide) ?_
                refine m_callSi (As := [.int p0, .int (nI 32)]) (rest := [.int (nI pl), .ref (ad 55)]) ⟨hx, hb, hml, hown, hts⟩ hE hI (c_L_below k l ad N g1 _ p0 32 (by omega) (by omega)) (va_cwS 2 hts gL_act_L_below rfl rfl rfl (by decide +kernel) ⟨Nat.le_of_ble_eq_true rfl, Nat.le_of_ble_eq_true rfl⟩) rfl hl.1 rfl (Nat.le_of_ble_eq_true rfl) dL_act_151 ⟨(by show _ ≤ 481; omega), (by show _ ≤ 8406; omega)⟩ (m_deti (fun H locs hI => ?_))
                have hbw_6 := blw_lt (v := p0) (b := 32) (by omega)
                refine lv_goto (tgt := 158) hx hb dL_act_154 (by decide) ?_
                refine m_top (show nI (blw p0 32) = nI q9 from by rw [hq9, if_pos c_145]) ?_
                exact K H locs hI
            refine m_iast hx hb hE hI 55 (by omega) (j := pl) (show g1 55 = .inl (k.2.1.1, 16, .inl (fun j => nI (gar j))) from hS.2.2.2.2.2.2.1) (by omega) (by omega) dL_act_158 (fun H locs hI => ?_)
            obtain ⟨g2, hg2⟩ : ∃ zz, zz = va_up g1 55 (.inl (k.2.1.1, 16, .inl (upd (fun j => nI (gar j)) pl (nI q9)))) := ⟨_, rfl⟩
            replace hI : mI k ad N g2 (mA ad N s.heap.size) s H locs := by rw [hg2]; exact hI
            rw [upd_nI] at hg2
            have hS : SR k ad bs N g2 uns play rd n (upd lat pl lt9) (va_up gar pl q9) T (came, mis, lost, bel, fig, u, ln, pg) := by rw [hg2]; exact SR.sgar hS
            have hC : CR k ad g2 uns play rd n lat gar T (came, mis, lost, bel, fig, fi, u, z, F) r := by rw [hg2]; exact CR.kept hC (fun i hi => va_up_ne _ _ (by omega))
            have hF : FRA ad g bs ad g2 := by rw [hg2]; exact FRA.up hF (by omega)
            refine lv_aload_n hx hb dL_act_159 rfl (lv_at hl 4 rfl) ?_
            refine lv_iload hx hb dL_act_160 (lv_at hl 1 rfl) ?_
            refine lv_aload_n hx hb dL_act_162 rfl (lv_at hl 5 rfl) ?_
            refine m_stk (show ([.ref aS, .int (nI pl), .ref ap] : List Value) = [.ref (ad 50), .int (nI pl), .ref ap] from by rw [haS]) ?_
            refine m_get (ci := 4) (C := RX4) (T := TX4) (N' := 14) hx hb hts (by decide +kernel) hown hE hI 50 (by omega) (show g2 50 = .inr (4, [.ref (ad 51), .ref (ad 52), .ref (ad 53), .int (bI fig), .int (bI uns), .int (nI play), .ref (ad 54), .ref (ad 55), .ref (ad 56), .int (nI rd), .int (nI came), .int mis, .int lost, .int bel]) from hS.2.1) rfl 6 (by decide) (hts (.fieldLink RL 29 "TapePrinterLaw$Sim" "late" "[I") (by decide +kernel)) rfl dL_act_163 ?_
            refine lv_iload hx hb dL_act_166 (lv_at hl 1 rfl) ?_
            refine m_iald hx hb hE hI 54 (by omega) (j := pl) (show g2 54 = .inl (k.2.1.1, 16, .inl (upd lat pl lt9)) from hS.2.2.2.2.2.1) (by omega) (by omega) dL_act_168 ?_
            refine m_top (show (upd lat pl lt9) pl = lt9 from pk_us) ?_
            refine lv_aload_n hx hb dL_act_169 rfl (lv_at hl 5 rfl) ?_
            refine m_stk (show ([.ref aS, .int lt9, .int (nI pl), .ref ap] : List Value) = [.ref (ad 50), .int lt9, .int (nI pl), .ref ap] from by rw [haS]) ?_
            refine m_get (ci := 4) (C := RX4) (T := TX4) (N' := 14) hx hb hts (by decide +kernel) hown hE hI 50 (by omega) (show g2 50 = .inr (4, [.ref (ad 51), .ref (ad 52), .ref (ad 53), .int (bI fig), .int (bI uns), .int (nI play), .ref (ad 54), .ref (ad 55), .ref (ad 56), .int (nI rd), .int (nI came), .int mis, .int lost, .int bel]) from hS.2.1) rfl 7 (by decide) (hts (.fieldLink RL 32 "TapePrinterLaw$Sim" "garble" "[I") (by decide +kernel)) rfl dL_act_170 ?_
            refine lv_iload hx hb dL_act_173 (lv_at hl 1 rfl) ?_
            refine m_iald hx hb hE hI 55 (by omega) (j := pl) (show g2 55 = .inl (k.2.1.1, 16, .inl (fun j => nI ((va_up gar pl q9) j))) from hS.2.2.2.2.2.2.1) (by omega) (by omega) dL_act_175 ?_
            refine m_top (show (fun j => nI ((va_up gar pl q9) j)) pl = nI ((va_up gar pl q9) pl) from rfl) ?_
            refine m_top (show nI ((va_up gar pl q9) pl) = nI q9 from by rw [va_up_self]) ?_
            refine m_stk (show ([.int (nI q9), .int lt9, .int (nI pl), .ref ap] : List Value) = [.int (nI q9), .int lt9, .int (nI pl), .ref (ad 0)] from by rw [hap]) ?_
            refine m_callVn (As := [.int (nI pl), .int lt9, .int (nI q9)]) (rest := []) (c1 := 1) (s1 := 6) ⟨hx, hb, hml, hown, hts⟩ hE hI (c_X3_setLine k l hst ad N g2 _ uns play rd n lat gar T came mis lost bel fig fi u z F r (nI pl) lt9 (nI q9) (by omega) hW hwf (by omega) hC) (fun E h => h.elim (fun h => absurd (inN_nI (n := 16) (show pl < 16 by omega) (by omega)) (by rw [h.2]; decide)) (fun h => absurd (show (in9 lt9 && inN (nI q9) 32) = true by rw [hin9, inN_nI (show q9 < 32 by omega) (by omega)]; rfl) (by rw [h.2.2]; decide))) (cwV 3 hts gL_act_X3_setLine rfl rfl rfl (by decide +kernel) ⟨Nat.le_of_ble_eq_true rfl, Nat.le_of_ble_eq_true rfl⟩) (i := 0) (by omega) hC.1 rfl rfl hl.1 rfl (Nat.le_of_ble_eq_true rfl) dL_act_176 (by omega) (by omega) ⟨(by show _ ≤ 481; omega), (by show _ ≤ 8406; omega)⟩ (fun r9 g9 H locs hp hI => ?_)
            obtain ⟨g3, hg3⟩ : ∃ zz, zz = g9 := ⟨_, rfl⟩
            rw [← hg3] at hp hI
            obtain ⟨_, _, hr9, hC9, hk9⟩ := hp
            rw [tn_nI (j := pl) (by omega)] at hr9
            rw [tn_nI (j := pl) (by omega), tn_nI (j := q9) (by omega)] at hC9
            subst hr9
            have hI : mI k ad N g3 (mA ad N s.heap.size) s H locs := hI
            have hC : CR k ad g3 uns play rd n (upd lat pl lt9) (va_up gar pl q9) T (came, mis, lost, bel, fig, fi, u, z, F) r := hC9
            have hS : SR k ad bs N g3 uns play rd n (upd lat pl lt9) (va_up gar pl q9) T (came, mis, lost, bel, fig, u, ln, pg) := SR.kept hS hk9
            have hF : FRA ad g bs ad g3 := FRA.go hF (FRA.cl hk9)
            refine lv_iload hx hb dL_act_179 (lv_at hl 0 rfl) ?_
            refine lv_icmp_ne (tgt := 188) hx hb dL_act_181 (by decide) (fun c_181 => ?_) (fun c_181 => ?_)
            · exact absurd rfl c_181
            · refine lv_iconst (v := nI 1) hx hb dL_act_184 (by decide) ?_
              refine lv_goto (tgt := 189) hx hb dL_act_185 (by decide) ?_
              refine m_top (y := bI true) (by decide) ?_
              exact m_gzret hx hb hr hlocks hE hI (post := fun (r : Int32) (ad1 : Nat → Nat) (N1 : Nat) (g1 : Nat → va_E) => r = bI true ∧ FRA ad g bs ad1 g1 ∧ ST k ad1 bs N1 g1 (cm + 120)) (v := true) (⟨rfl, hF, uns, play, rd, n, (upd lat pl lt9), (va_up gar pl q9), T, ((came, mis, lost, bel, fig, fi, u, z, F)), ((came, mis, lost, bel, fig, u, ln, pg)), r, hC, hS, (CW.line hW (by omega) (in9_b hin9)), hwf, hwv, hYR, (show came ≤ cm + 120 by omega)⟩) (by omega) (by omega) dL_act_189
          · refine lv_tableIn (tgt := 190) hx hb dL_act_25 (by decide) (by decide) (off := 165) (by decide) (by decide) ?_
            refine lv_aload_n hx hb dL_act_190 rfl (lv_at hl 3 rfl) ?_
            refine m_stk (show ([.ref aS] : List Value) = [.ref (ad 50)] from by rw [haS]) ?_
            refine m_get (ci := 4) (C := RX4) (T := TX4) (N' := 14) hx hb hts (by decide +kernel) hown hE hI 50 (by omega) (show g 50 = .inr (4, [.ref (ad 51), .ref (ad 52), .ref (ad 53), .int (bI fig), .int (bI uns), .int (nI play), .ref (ad 54), .ref (ad 55), .ref (ad 56), .int (nI rd), .int (nI came), .int mis, .int lost, .int bel]) from hS.2.1) rfl 5 (by decide) (hts (.fieldLink RL 41 "TapePrinterLaw$Sim" "play" "I") (by decide +kernel)) rfl dL_act_191 ?_
            refine lv_istore (lv' := [(7, .int (nI play)), (4, .int (nI co4)), (3, .int (nI n)), (0, .ref ap), (1, .ref aS), (2, .int p0)]) hx hb dL_act_194 hl (by decide) rfl (fun ls hl => ?_)
            refine lv_aload_n hx hb dL_act_196 rfl (lv_at hl 4 rfl) ?_
            refine lv_iload_n hx hb dL_act_197 rfl (lv_at hl 5 rfl) ?_
            refine lv_iconst (v := nI 1) hx hb dL_act_198 (by decide) ?_
            refine lv_ishr hx hb dL_act_199 ?_
            refine lv_bipush (v := nI 10) hx hb dL_act_200 (by decide) ?_
            refine m_callSi (As := [.int (p0 >>> ((nI 1) &&& 31)), .int (nI 10)]) (rest := [.ref aS]) ⟨hx, hb, hml, hown, hts⟩ hE hI (c_L_below k l ad N g _ (p0 >>> ((nI 1) &&& 31)) 10 (by omega) (by omega)) (va_cwS 2 hts gL_act_L_below rfl rfl rfl (by decide +kernel) ⟨Nat.le_of_ble_eq_true rfl, Nat.le_of_ble_eq_true rfl⟩) rfl hl.1 rfl (Nat.le_of_ble_eq_true rfl) dL_act_202 ⟨(by show _ ≤ 481; omega), (by show _ ≤ 8406; omega)⟩ (m_deti (fun H locs hI => ?_))
            have hbw_7 := blw_lt (v := p0 >>> ((nI 1) &&& 31)) (b := 10) (by omega)
            obtain ⟨pl9, hpl9⟩ : ∃ zz, zz = blw (p0 >>> ((nI 1) &&& 31)) 10 := ⟨_, rfl⟩
            refine m_top (show nI (blw (p0 >>> ((nI 1) &&& 31)) 10) = nI pl9 from by rw [hpl9]) ?_
            have hbpl9 : pl9 < 10 := by rw [hpl9]; omega
            refine m_stk (show ([.int (nI pl9), .ref aS] : List Value) = [.int (nI pl9), .ref (ad 50)] from by rw [haS]) ?_
            refine m_put (ci := 4) (C := RX4) (T := TX4) (N' := 14) (ty := .int) hx hb hts (by decide +kernel) tyX4 tyX4_ok nmX4 hown hE hI 50 (by omega) (show g 50 = .inr (4, [.ref (ad 51), .ref (ad 52), .ref (ad 53), .int (bI fig), .int (bI uns), .int (nI play), .ref (ad 54), .ref (ad 55), .ref (ad 56), .int (nI rd), .int (nI came), .int mis, .int lost, .int bel]) from hS.2.1) rfl 5 (by decide) (hts (.fieldLink RL 41 "TapePrinterLaw$Sim" "play" "I") (by decide +kernel)) rfl (by decide +kernel) rfl rfl (Nat.le_of_ble_eq_true rfl) dL_act_205 (fun H locs hI => ?_)
            obtain ⟨g4, hg4⟩ : ∃ zz, zz = va_up g 50 (.inr (4, [.ref (ad 51), .ref (ad 52), .ref (ad 53), .int (bI fig), .int (bI uns), .int (nI pl9), .ref (ad 54), .ref (ad 55), .ref (ad 56), .int (nI rd), .int (nI came), .int mis, .int lost, .int bel])) := ⟨_, rfl⟩
            replace hI : mI k ad N g4 (mA ad N s.heap.size) s H locs := by rw [hg4]; exact hI
            have hS : SR k ad bs N g4 uns pl9 rd n lat gar T (came, mis, lost, bel, fig, u, ln, pg) := by rw [hg4]; exact SR.obj hS
            have hC : CR k ad g4 uns play rd n lat gar T (came, mis, lost, bel, fig, fi, u, z, F) r := by rw [hg4]; exact CR.kept hC (fun i hi => va_up_ne _ _ (by omega))
            have hF : FRA ad g bs ad g4 := by rw [hg4]; exact FRA.up hF (by omega)
            refine lv_aload_n hx hb dL_act_208 rfl (lv_at hl 3 rfl) ?_
            refine lv_aload_n hx hb dL_act_209 rfl (lv_at hl 4 rfl) ?_
            refine m_stk (show ([.ref aS, .ref ap] : List Value) = [.ref (ad 50), .ref ap] from by rw [haS]) ?_
            refine m_get (ci := 4) (C := RX4) (T := TX4) (N' := 14) hx hb hts (by decide +kernel) hown hE hI 50 (by omega) (show g4 50 = .inr (4, [.ref (ad 51), .ref (ad 52), .ref (ad 53), .int (bI fig), .int (bI uns), .int (nI pl9), .ref (ad 54), .ref (ad 55), .ref (ad 56), .int (nI rd), .int (nI came), .int mis, .int lost, .int bel]) from hS.2.1) rfl 5 (by decide) (hts (.fieldLink RL 41 "TapePrinterLaw$Sim" "play" "I") (by decide +kernel)) rfl dL_act_210 ?_
            refine m_stk (show ([.int (nI pl9), .ref ap] : List Value) = [.int (nI pl9), .ref (ad 0)] from by rw [hap]) ?_
            refine m_callVn (As := [.int (nI pl9)]) (rest := []) (c1 := 1) (s1 := 6) ⟨hx, hb, hml, hown, hts⟩ hE hI (c_X3_setPlay k l hst ad N g4 _ uns play rd n lat gar T came mis lost bel fig fi u z F r (nI pl9) (by omega) hW hwf (by omega) hC) (fun E h => absurd (inN_nI (n := 10) (show pl9 < 10 by omega) (by omega)) (by rw [h.2]; decide)) (cwV 1 hts gL_act_X3_setPlay rfl rfl rfl (by decide +kernel) ⟨Nat.le_of_ble_eq_true rfl, Nat.le_of_ble_eq_true rfl⟩) (i := 0) (by omega) hC.1 rfl rfl hl.1 rfl (Nat.le_of_ble_eq_true rfl) dL_act_213 (by omega) (by omega) ⟨(by show _ ≤ 481; omega), (by show _ ≤ 8406; omega)⟩ (fun r9 g9 H locs hp hI => ?_)
            obtain ⟨g5, hg5⟩ : ∃ zz, zz = g9 := ⟨_, rfl⟩
            rw [← hg5] at hp hI
            obtain ⟨_, hr9, hC9, hk9⟩ := hp
            rw [tn_nI (j := pl9) (by omega)] at hC9
            subst hr9
            have hI : mI k ad N g5 (mA ad N s.heap.size) s H locs := hI
            have hC : CR k ad g5 uns pl9 rd n lat gar T (came, mis, lost, bel, fig, fi, u, z, F) r := hC9
            have hS : SR k ad bs N g5 uns pl9 rd n lat gar T (came, mis, lost, bel, fig, u, ln, pg) := SR.kept hS hk9
            have hF : FRA ad g bs ad g5 := FRA.go hF (FRA.cl hk9)
            refine lv_iload hx hb dL_act_216 (lv_at hl 0 rfl) ?_
            refine m_cneN (tgt := 225) hx hb (by omega) (by omega) dL_act_218 (by decide) (fun c_218 => ?_) (fun c_218 => ?_)
            · exact absurd rfl c_218
            · refine lv_iconst (v := nI 1) hx hb dL_act_221 (by decide) ?_
              refine lv_goto (tgt := 226) hx hb dL_act_222 (by decide) ?_
              refine m_top (y := bI true) (by decide) ?_
              exact m_gzret hx hb hr hlocks hE hI (post := fun (r : Int32) (ad1 : Nat → Nat) (N1 : Nat) (g1 : Nat → va_E) => r = bI true ∧ FRA ad g bs ad1 g1 ∧ ST k ad1 bs N1 g1 (cm + 120)) (v := true) (⟨rfl, hF, uns, pl9, rd, n, lat, gar, T, ((came, mis, lost, bel, fig, fi, u, z, F)), ((came, mis, lost, bel, fig, u, ln, pg)), r, hC, hS, (CW.play hW (by omega)), hwf, hwv, hYR, (show came ≤ cm + 120 by omega)⟩) (by omega) (by omega) dL_act_226
          · refine lv_tableIn (tgt := 227) hx hb dL_act_25 (by decide) (by decide) (off := 202) (by decide) (by decide) ?_
            refine lv_aload_n hx hb dL_act_227 rfl (lv_at hl 3 rfl) ?_
            refine m_stk (show ([.ref aS] : List Value) = [.ref (ad 50)] from by rw [haS]) ?_
            refine m_get (ci := 4) (C := RX4) (T := TX4) (N' := 14) hx hb hts (by decide +kernel) hown hE hI 50 (by omega) (show g 50 = .inr (4, [.ref (ad 51), .ref (ad 52), .ref (ad 53), .int (bI fig), .int (bI uns), .int (nI play), .ref (ad 54), .ref (ad 55), .ref (ad 56), .int (nI rd), .int (nI came), .int mis, .int lost, .int bel]) from hS.2.1) rfl 4 (by decide) (hts (.fieldLink RL 49 "TapePrinterLaw$Sim" "unshifts" "Z") (by decide +kernel)) rfl dL_act_228 ?_
            refine lv_istore (lv' := [(8, .int (bI uns)), (4, .int (nI co4)), (3, .int (nI n)), (0, .ref ap), (1, .ref aS), (2, .int p0)]) hx hb dL_act_231 hl (by decide) rfl (fun ls hl => ?_)
            refine lv_aload_n hx hb dL_act_233 rfl (lv_at hl 4 rfl) ?_
            refine lv_iload_n hx hb dL_act_234 rfl (lv_at hl 5 rfl) ?_
            refine lv_iconst (v := nI 2) hx hb dL_act_235 (by decide) ?_
            refine m_callSi (As := [.int p0, .int (nI 2)]) (rest := [.ref aS]) ⟨hx, hb, hml, hown, hts⟩ hE hI (c_L_below k l ad N g _ p0 2 (by omega) (by omega)) (va_cwS 2 hts gL_act_L_below rfl rfl rfl (by decide +kernel) ⟨Nat.le_of_ble_eq_true rfl, Nat.le_of_ble_eq_true rfl⟩) rfl hl.1 rfl (Nat.le_of_ble_eq_true rfl) dL_act_236 ⟨(by show _ ≤ 481; omega), (by show _ ≤ 8406; omega)⟩ (m_deti (fun H locs hI => ?_))
            have hbw_8 := blw_lt (v := p0) (b := 2) (by omega)
            obtain ⟨b9, hb9⟩ : ∃ zz, zz = decide (blw p0 2 = 0) := ⟨_, rfl⟩
            refine m_via hI 247 ([.int (bI b9), .ref aS]) (fun K => ?_) (fun H locs hI => ?_)
            · refine m_zneN (tgt := 246) hx hb (by omega) dL_act_239 (by decide) (fun c_239 => ?_) (fun c_239 => ?_)
              · refine lv_iconst (v := nI 0) hx hb dL_act_246 (by decide) ?_
                refine m_top (show nI 0 = bI b9 from by rw [hb9, decide_eq_false c_239] <;> rfl) ?_
                exact K H locs hI
              · refine lv_iconst (v := nI 1) hx hb dL_act_242 (by decide) ?_
                refine lv_goto (tgt := 247) hx hb dL_act_243 (by decide) ?_
                refine m_top (show nI 1 = bI b9 from by rw [hb9, decide_eq_true c_239] <;> rfl) ?_
                exact K H locs hI
            refine m_stk (show ([.int (bI b9), .ref aS] : List Value) = [.int (bI b9), .ref (ad 50)] from by rw [haS]) ?_
            refine m_put (ci := 4) (C := RX4) (T := TX4) (N' := 14) (ty := .boolean) hx hb hts (by decide +kernel) tyX4 tyX4_ok nmX4 hown hE hI 50 (by omega) (show g 50 = .inr (4, [.ref (ad 51), .ref (ad 52), .ref (ad 53), .int (bI fig), .int (bI uns), .int (nI play), .ref (ad 54), .ref (ad 55), .ref (ad 56), .int (nI rd), .int (nI came), .int mis, .int lost, .int bel]) from hS.2.1) rfl 4 (by decide) (hts (.fieldLink RL 49 "TapePrinterLaw$Sim" "unshifts" "Z") (by decide +kernel)) rfl (by decide +kernel) (bI_nar _) (bI_fit _) (Nat.le_of_ble_eq_true rfl) dL_act_247 (fun H locs hI => ?_)
            obtain ⟨g6, hg6⟩ : ∃ zz, zz = va_up g 50 (.inr (4, [.ref (ad 51), .ref (ad 52), .ref (ad 53), .int (bI fig), .int (bI b9), .int (nI play), .ref (ad 54), .ref (ad 55), .ref (ad 56), .int (nI rd), .int (nI came), .int mis, .int lost, .int bel])) := ⟨_, rfl⟩
            replace hI : mI k ad N g6 (mA ad N s.heap.size) s H locs := by rw [hg6]; exact hI
            have hS : SR k ad bs N g6 b9 play rd n lat gar T (came, mis, lost, bel, fig, u, ln, pg) := by rw [hg6]; exact SR.obj hS
            have hC : CR k ad g6 uns play rd n lat gar T (came, mis, lost, bel, fig, fi, u, z, F) r := by rw [hg6]; exact CR.kept hC (fun i hi => va_up_ne _ _ (by omega))
            have hF : FRA ad g bs ad g6 := by rw [hg6]; exact FRA.up hF (by omega)
            refine lv_aload_n hx hb dL_act_250 rfl (lv_at hl 3 rfl) ?_
            refine lv_aload_n hx hb dL_act_251 rfl (lv_at hl 4 rfl) ?_
            refine m_stk (show ([.ref aS, .ref ap] : List Value) = [.ref (ad 50), .ref ap] from by rw [haS]) ?_
            refine m_get (ci := 4) (C := RX4) (T := TX4) (N' := 14) hx hb hts (by decide +kernel) hown hE hI 50 (by omega) (show g6 50 = .inr (4, [.ref (ad 51), .ref (ad 52), .ref (ad 53), .int (bI fig), .int (bI b9), .int (nI play), .ref (ad 54), .ref (ad 55), .ref (ad 56), .int (nI rd), .int (nI came), .int mis, .int lost, .int bel]) from hS.2.1) rfl 4 (by decide) (hts (.fieldLink RL 49 "TapePrinterLaw$Sim" "unshifts" "Z") (by decide +kernel)) rfl dL_act_252 ?_
            refine m_stk (show ([.int (bI b9), .ref ap] : List Value) = [.int (bI b9), .ref (ad 0)] from by rw [hap]) ?_
            refine m_callVi (As := [.int (bI b9)]) (rest := []) ⟨hx, hb, hml, hown, hts⟩ hE hI (c_X3_setUnshift k l ad N g6 _ uns play rd n lat gar T came mis lost bel fig fi u z F r b9 (by omega) hW hwf (by omega) hC) (cwV 1 hts gL_act_X3_setUnshift rfl rfl rfl (by decide +kernel) ⟨Nat.le_of_ble_eq_true rfl, Nat.le_of_ble_eq_true rfl⟩) (i := 0) (by omega) hC.1 rfl rfl hl.1 rfl (Nat.le_of_ble_eq_true rfl) dL_act_255 ⟨(by show _ ≤ 481; omega), (by show _ ≤ 8406; omega)⟩ (fun r9 g9 H locs hp hI => ?_)
            obtain ⟨g7, hg7⟩ : ∃ zz, zz = g9 := ⟨_, rfl⟩
            rw [← hg7] at hp hI
            obtain ⟨hr9, hC9, hk9⟩ := hp
            subst hr9
            have hI : mI k ad N g7 (mA ad N s.heap.size) s H locs := hI
            have hC : CR k ad g7 b9 play rd n lat gar T (came, mis, lost, bel, fig, fi, u, z, F) r := hC9
            have hS : SR k ad bs N g7 b9 play rd n lat gar T (came, mis, lost, bel, fig, u, ln, pg) := SR.kept hS hk9
            have hF : FRA ad g bs ad g7 := FRA.go hF (FRA.cl hk9)
            refine lv_iload hx hb dL_act_258 (lv_at hl 0 rfl) ?_
            refine m_cneB (tgt := 267) hx hb dL_act_260 (by decide) (fun c_260 => ?_) (fun c_260 => ?_)
            · exact absurd rfl c_260
            · refine lv_iconst (v := nI 1) hx hb dL_act_263 (by decide) ?_
              refine lv_goto (tgt := 268) hx hb dL_act_264 (by decide) ?_
              refine m_top (y := bI true) (by decide) ?_
              exact m_gzret hx hb hr hlocks hE hI (post := fun (r : Int32) (ad1 : Nat → Nat) (N1 : Nat) (g1 : Nat → va_E) => r = bI true ∧ FRA ad g bs ad1 g1 ∧ ST k ad1 bs N1 g1 (cm + 120)) (v := true) (⟨rfl, hF, b9, play, rd, n, lat, gar, T, ((came, mis, lost, bel, fig, fi, u, z, F)), ((came, mis, lost, bel, fig, u, ln, pg)), r, hC, hS, hW, hwf, hwv, hYR, (show came ≤ cm + 120 by omega)⟩) (by omega) (by omega) dL_act_268
          · refine lv_tableIn (tgt := 269) hx hb dL_act_25 (by decide) (by decide) (off := 244) (by decide) (by decide) ?_
            exact K269 H locs hI
          · refine lv_tableIn (tgt := 269) hx hb dL_act_25 (by decide) (by decide) (off := 244) (by decide) (by decide) ?_
            exact K269 H locs hI
          · refine lv_tableIn (tgt := 269) hx hb dL_act_25 (by decide) (by decide) (off := 244) (by decide) (by decide) ?_
            exact K269 H locs hI
          · refine lv_tableIn (tgt := 318) hx hb dL_act_25 (by decide) (by decide) (off := 293) (by decide) (by decide) ?_
            exact K318 H locs hI
          · refine lv_tableIn (tgt := 318) hx hb dL_act_25 (by decide) (by decide) (off := 293) (by decide) (by decide) ?_
            exact K318 H locs hI
          · refine lv_tableIn (tgt := 357) hx hb dL_act_25 (by decide) (by decide) (off := 332) (by decide) (by decide) ?_
            exact K357 H locs hI
          · refine lv_tableIn (tgt := 357) hx hb dL_act_25 (by decide) (by decide) (off := 332) (by decide) (by decide) ?_
            exact K357 H locs hI
          · refine lv_tableIn (tgt := 357) hx hb dL_act_25 (by decide) (by decide) (off := 332) (by decide) (by decide) ?_
            exact K357 H locs hI
          · refine lv_tableIn (tgt := 357) hx hb dL_act_25 (by decide) (by decide) (off := 332) (by decide) (by decide) ?_
            exact K357 H locs hI
          · refine lv_tableIn (tgt := 499) hx hb dL_act_25 (by decide) (by decide) (off := 474) (by decide) (by decide) ?_
            refine lv_iload_n hx hb dL_act_499 rfl (lv_at hl 1 rfl) ?_
            refine m_zeqN (tgt := 511) hx hb (by omega) dL_act_500 (by decide) (fun c_500 => ?_) (fun c_500 => ?_)
            · refine lv_iconst (v := nI 1) hx hb dL_act_511 (by decide) ?_
              refine m_top (y := bI true) (by decide) ?_
              exact m_gzret hx hb hr hlocks hE hI (post := fun (r : Int32) (ad1 : Nat → Nat) (N1 : Nat) (g1 : Nat → va_E) => r = bI true ∧ FRA ad g bs ad1 g1 ∧ ST k ad1 bs N1 g1 (cm + 120)) (v := true) (⟨rfl, hF, uns, play, rd, n, lat, gar, T, ((came, mis, lost, bel, fig, fi, u, z, F)), ((came, mis, lost, bel, fig, u, ln, pg)), r, hC, hS, hW, hwf, hwv, hYR, (show came ≤ cm + 120 by omega)⟩) (by omega) (by omega) dL_act_512
            · refine lv_iload_n hx hb dL_act_503 rfl (lv_at hl 4 rfl) ?_
              refine lv_iconst (v := nI 3) hx hb dL_act_504 (by decide) ?_
              refine m_callSi (As := [.int p0, .int (nI 3)]) (rest := []) ⟨hx, hb, hml, hown, hts⟩ hE hI (c_L_below k l ad N g _ p0 3 (by omega) (by omega)) (va_cwS 2 hts gL_act_L_below rfl rfl rfl (by decide +kernel) ⟨Nat.le_of_ble_eq_true rfl, Nat.le_of_ble_eq_true rfl⟩) rfl hl.1 rfl (Nat.le_of_ble_eq_true rfl) dL_act_505 ⟨(by show _ ≤ 481; omega), (by show _ ≤ 8406; omega)⟩ (m_deti (fun H locs hI => ?_))
              have hbw_9 := blw_lt (v := p0) (b := 3) (by omega)
              refine m_zleN (tgt := 513) hx hb (by omega) dL_act_508 (by decide) (fun c_508 => ?_) (fun c_508 => ?_)
              · refine lv_aload_n hx hb dL_act_513 rfl (lv_at hl 3 rfl) ?_
                refine m_stk (show ([.ref aS] : List Value) = [.ref (ad 50)] from by rw [haS]) ?_
                refine m_get (ci := 4) (C := RX4) (T := TX4) (N' := 14) hx hb hts (by decide +kernel) hown hE hI 50 (by omega) (show g 50 = .inr (4, [.ref (ad 51), .ref (ad 52), .ref (ad 53), .int (bI fig), .int (bI uns), .int (nI play), .ref (ad 54), .ref (ad 55), .ref (ad 56), .int (nI rd), .int (nI came), .int mis, .int lost, .int bel]) from hS.2.1) rfl 8 (by decide) (hts (.fieldLink RL 19 "TapePrinterLaw$Sim" "tape" "[I") (by decide +kernel)) rfl dL_act_514 ?_
                refine lv_iload_n hx hb dL_act_517 rfl (lv_at hl 4 rfl) ?_
                refine lv_iconst (v := nI 3) hx hb dL_act_518 (by decide) ?_
                refine lv_ishr hx hb dL_act_519 ?_
                refine lv_iload_n hx hb dL_act_520 rfl (lv_at hl 1 rfl) ?_
                refine m_callSi (As := [.int (p0 >>> ((nI 3) &&& 31)), .int (nI n)]) (rest := [.ref (ad 56)]) ⟨hx, hb, hml, hown, hts⟩ hE hI (c_L_below k l ad N g _ (p0 >>> ((nI 3) &&& 31)) n (by omega) (by omega)) (va_cwS 2 hts gL_act_L_below rfl rfl rfl (by decide +kernel) ⟨Nat.le_of_ble_eq_true rfl, Nat.le_of_ble_eq_true rfl⟩) rfl hl.1 rfl (Nat.le_of_ble_eq_true rfl) dL_act_521 ⟨(by show _ ≤ 481; omega), (by show _ ≤ 8406; omega)⟩ (m_deti (fun H locs hI => ?_))
                have hbw_10 := blw_lt (v := p0 >>> ((nI 3) &&& 31)) (b := n) (by omega)
                obtain ⟨pl, hpl⟩ : ∃ zz, zz = blw (p0 >>> ((nI 3) &&& 31)) n := ⟨_, rfl⟩
                refine m_top (show nI (blw (p0 >>> ((nI 3) &&& 31)) n) = nI pl from by rw [hpl]) ?_
                have hbpl : pl < n := by rw [hpl]; omega
                refine m_iald hx hb hE hI 56 (by omega) (j := pl) (show g 56 = .inl (k.2.1.1, n, .inl (fun j => nI (T j))) from hS.2.2.2.2.2.2.2.1) (by omega) (by omega) dL_act_524 ?_
                refine m_top (show (fun j => nI (T j)) pl = nI (T pl) from rfl) ?_
                have ht_11 := hT pl
                refine lv_istore (lv' := [(13, .int (nI (T pl))), (4, .int (nI co4)), (3, .int (nI n)), (0, .ref ap), (1, .ref aS), (2, .int p0)]) hx hb dL_act_525 hl (by decide) rfl (fun ls hl => ?_)
                refine lv_aload_n hx hb dL_act_527 rfl (lv_at hl 4 rfl) ?_
                refine m_stk (show ([.ref aS] : List Value) = [.ref (ad 50)] from by rw [haS]) ?_
                refine m_get (ci := 4) (C := RX4) (T := TX4) (N' := 14) hx hb hts (by decide +kernel) hown hE hI 50 (by omega) (show g 50 = .inr (4, [.ref (ad 51), .ref (ad 52), .ref (ad 53), .int (bI fig), .int (bI uns), .int (nI play), .ref (ad 54), .ref (ad 55), .ref (ad 56), .int (nI rd), .int (nI came), .int mis, .int lost, .int bel]) from hS.2.1) rfl 8 (by decide) (hts (.fieldLink RL 19 "TapePrinterLaw$Sim" "tape" "[I") (by decide +kernel)) rfl dL_act_528 ?_
                refine lv_iload_n hx hb dL_act_531 rfl (lv_at hl 5 rfl) ?_
                refine lv_iconst (v := nI 3) hx hb dL_act_532 (by decide) ?_
                refine lv_ishr hx hb dL_act_533 ?_
                refine lv_iload_n hx hb dL_act_534 rfl (lv_at hl 2 rfl) ?_
                refine m_callSi (As := [.int (p0 >>> ((nI 3) &&& 31)), .int (nI n)]) (rest := [.ref (ad 56)]) ⟨hx, hb, hml, hown, hts⟩ hE hI (c_L_below k l ad N g _ (p0 >>> ((nI 3) &&& 31)) n (by omega) (by omega)) (va_cwS 2 hts gL_act_L_below rfl rfl rfl (by decide +kernel) ⟨Nat.le_of_ble_eq_true rfl, Nat.le_of_ble_eq_true rfl⟩) rfl hl.1 rfl (Nat.le_of_ble_eq_true rfl) dL_act_535 ⟨(by show _ ≤ 481; omega), (by show _ ≤ 8406; omega)⟩ (m_deti (fun H locs hI => ?_))
                have hbw_12 := blw_lt (v := p0 >>> ((nI 3) &&& 31)) (b := n) (by omega)
                refine m_top (show nI (blw (p0 >>> ((nI 3) &&& 31)) n) = nI pl from by rw [hpl]) ?_
                refine lv_bipush (v := nI 31) hx hb dL_act_538 (by decide) ?_
                refine m_iast hx hb hE hI 56 (by omega) (j := pl) (show g 56 = .inl (k.2.1.1, n, .inl (fun j => nI (T j))) from hS.2.2.2.2.2.2.2.1) (by omega) (by omega) dL_act_540 (fun H locs hI => ?_)
                obtain ⟨g8, hg8⟩ : ∃ zz, zz = va_up g 56 (.inl (k.2.1.1, n, .inl (upd (fun j => nI (T j)) pl (nI 31)))) := ⟨_, rfl⟩
                replace hI : mI k ad N g8 (mA ad N s.heap.size) s H locs := by rw [hg8]; exact hI
                rw [upd_nI] at hg8
                have hS : SR k ad bs N g8 uns play rd n lat gar (va_up T pl 31) (came, mis, lost, bel, fig, u, ln, pg) := by rw [hg8]; exact SR.stap hS
                have hC : CR k ad g8 uns play rd n lat gar T (came, mis, lost, bel, fig, fi, u, z, F) r := by rw [hg8]; exact CR.kept hC (fun i hi => va_up_ne _ _ (by omega))
                have hF : FRA ad g bs ad g8 := by rw [hg8]; exact FRA.up hF (by omega)
                refine lv_aload_n hx hb dL_act_541 rfl (lv_at hl 3 rfl) ?_
                refine lv_iload_n hx hb dL_act_542 rfl (lv_at hl 5 rfl) ?_
                refine lv_iconst (v := nI 3) hx hb dL_act_543 (by decide) ?_
                refine lv_ishr hx hb dL_act_544 ?_
                refine lv_iload_n hx hb dL_act_545 rfl (lv_at hl 2 rfl) ?_
                refine m_callSi (As := [.int (p0 >>> ((nI 3) &&& 31)), .int (nI n)]) (rest := [.ref ap]) ⟨hx, hb, hml, hown, hts⟩ hE hI (c_L_below k l ad N g8 _ (p0 >>> ((nI 3) &&& 31)) n (by omega) (by omega)) (va_cwS 2 hts gL_act_L_below rfl rfl rfl (by decide +kernel) ⟨Nat.le_of_ble_eq_true rfl, Nat.le_of_ble_eq_true rfl⟩) rfl hl.1 rfl (Nat.le_of_ble_eq_true rfl) dL_act_546 ⟨(by show _ ≤ 481; omega), (by show _ ≤ 8406; omega)⟩ (m_deti (fun H locs hI => ?_))
                have hbw_13 := blw_lt (v := p0 >>> ((nI 3) &&& 31)) (b := n) (by omega)
                refine m_top (show nI (blw (p0 >>> ((nI 3) &&& 31)) n) = nI pl from by rw [hpl]) ?_
                refine m_stk (show ([.int (nI pl), .ref ap] : List Value) = [.int (nI pl), .ref (ad 0)] from by rw [hap]) ?_
                refine m_callVn (As := [.int (nI pl)]) (rest := []) (c1 := 1) (s1 := 6) ⟨hx, hb, hml, hown, hts⟩ hE hI (c_X3_rub k l hst ad N g8 _ uns play rd n lat gar T came mis lost bel fig fi u z F r (nI pl) (by omega) hW hwf (by omega) hC) (fun E h => absurd (inN_nI (n := n) (show pl < n by omega) (by omega)) (by rw [h.2]; decide)) (cwV 1 hts gL_act_X3_rub rfl rfl rfl (by decide +kernel) ⟨Nat.le_of_ble_eq_true rfl, Nat.le_of_ble_eq_true rfl⟩) (i := 0) (by omega) hC.1 rfl rfl hl.1 rfl (Nat.le_of_ble_eq_true rfl) dL_act_549 (by omega) (by omega) ⟨(by show _ ≤ 481; omega), (by show _ ≤ 8406; omega)⟩ (fun r9 g9 H locs hp hI => ?_)
                obtain ⟨g9, hg9⟩ : ∃ zz, zz = g9 := ⟨_, rfl⟩
                rw [← hg9] at hp hI
                obtain ⟨_, hr9, hC9, hk9⟩ := hp
                rw [tn_nI (j := pl) (by omega)] at hr9
                rw [tn_nI (j := pl) (by omega)] at hC9
                subst hr9
                have hI : mI k ad N g9 (mA ad N s.heap.size) s H locs := hI
                have hC : CR k ad g9 uns play rd n lat gar (va_up T pl 31) (came, mis, lost, bel, fig, fi, u, z, F) r := hC9
                have hS : SR k ad bs N g9 uns play rd n lat gar (va_up T pl 31) (came, mis, lost, bel, fig, u, ln, pg) := SR.kept hS hk9
                have hF : FRA ad g bs ad g9 := FRA.go hF (FRA.cl hk9)
                refine lv_iload hx hb dL_act_552 (lv_at hl 0 rfl) ?_
                refine m_cneN (tgt := 561) hx hb (by omega) (by omega) dL_act_554 (by decide) (fun c_554 => ?_) (fun c_554 => ?_)
                · exact absurd rfl c_554
                · refine lv_iconst (v := nI 1) hx hb dL_act_557 (by decide) ?_
                  refine lv_goto (tgt := 562) hx hb dL_act_558 (by decide) ?_
                  refine m_top (y := bI true) (by decide) ?_
                  exact m_gzret hx hb hr hlocks hE hI (post := fun (r : Int32) (ad1 : Nat → Nat) (N1 : Nat) (g1 : Nat → va_E) => r = bI true ∧ FRA ad g bs ad1 g1 ∧ ST k ad1 bs N1 g1 (cm + 120)) (v := true) (⟨rfl, hF, uns, play, rd, n, lat, gar, (va_up T pl 31), ((came, mis, lost, bel, fig, fi, u, z, F)), ((came, mis, lost, bel, fig, u, ln, pg)), r, hC, hS, (CW.rub hW (by omega)), hwf, hwv, hYR, (show came ≤ cm + 120 by omega)⟩) (by omega) (by omega) dL_act_562
              · refine lv_iconst (v := nI 1) hx hb dL_act_511 (by decide) ?_
                refine m_top (y := bI true) (by decide) ?_
                exact m_gzret hx hb hr hlocks hE hI (post := fun (r : Int32) (ad1 : Nat → Nat) (N1 : Nat) (g1 : Nat → va_E) => r = bI true ∧ FRA ad g bs ad1 g1 ∧ ST k ad1 bs N1 g1 (cm + 120)) (v := true) (⟨rfl, hF, uns, play, rd, n, lat, gar, T, ((came, mis, lost, bel, fig, fi, u, z, F)), ((came, mis, lost, bel, fig, u, ln, pg)), r, hC, hS, hW, hwf, hwv, hYR, (show came ≤ cm + 120 by omega)⟩) (by omega) (by omega) dL_act_512
          · refine lv_tableIn (tgt := 563) hx hb dL_act_25 (by decide) (by decide) (off := 538) (by decide) (by decide) ?_
            refine lv_aload_n hx hb dL_act_563 rfl (lv_at hl 3 rfl) ?_
            refine m_stk (show ([.ref aS] : List Value) = [.ref (ad 50)] from by rw [haS]) ?_
            refine m_get (ci := 4) (C := RX4) (T := TX4) (N' := 14) hx hb hts (by decide +kernel) hown hE hI 50 (by omega) (show g 50 = .inr (4, [.ref (ad 51), .ref (ad 52), .ref (ad 53), .int (bI fig), .int (bI uns), .int (nI play), .ref (ad 54), .ref (ad 55), .ref (ad 56), .int (nI rd), .int (nI came), .int mis, .int lost, .int bel]) from hS.2.1) rfl 9 (by decide) (hts (.fieldLink RL 80 "TapePrinterLaw$Sim" "reader" "I") (by decide +kernel)) rfl dL_act_564 ?_
            refine lv_istore (lv' := [(14, .int (nI rd)), (4, .int (nI co4)), (3, .int (nI n)), (0, .ref ap), (1, .ref aS), (2, .int p0)]) hx hb dL_act_567 hl (by decide) rfl (fun ls hl => ?_)
            refine lv_aload_n hx hb dL_act_569 rfl (lv_at hl 4 rfl) ?_
            refine lv_iload_n hx hb dL_act_570 rfl (lv_at hl 5 rfl) ?_
            refine lv_iconst (v := nI 1) hx hb dL_act_571 (by decide) ?_
            refine lv_ishr hx hb dL_act_572 ?_
            refine lv_iload_n hx hb dL_act_573 rfl (lv_at hl 2 rfl) ?_
            refine lv_iconst (v := nI 1) hx hb dL_act_574 (by decide) ?_
            refine m_iaddN hx hb dL_act_575 ?_
            refine m_callSi (As := [.int (p0 >>> ((nI 1) &&& 31)), .int (nI (n + 1))]) (rest := [.ref aS]) ⟨hx, hb, hml, hown, hts⟩ hE hI (c_L_below k l ad N g _ (p0 >>> ((nI 1) &&& 31)) (n + 1) (by omega) (by omega)) (va_cwS 2 hts gL_act_L_below rfl rfl rfl (by decide +kernel) ⟨Nat.le_of_ble_eq_true rfl, Nat.le_of_ble_eq_true rfl⟩) rfl hl.1 rfl (Nat.le_of_ble_eq_true rfl) dL_act_576 ⟨(by show _ ≤ 481; omega), (by show _ ≤ 8406; omega)⟩ (m_deti (fun H locs hI => ?_))
            have hbw_14 := blw_lt (v := p0 >>> ((nI 1) &&& 31)) (b := n + 1) (by omega)
            obtain ⟨rd9, hrd9⟩ : ∃ zz, zz = blw (p0 >>> ((nI 1) &&& 31)) (n + 1) := ⟨_, rfl⟩
            refine m_top (show nI (blw (p0 >>> ((nI 1) &&& 31)) (n + 1)) = nI rd9 from by rw [hrd9]) ?_
            have hbrd9 : rd9 < (n + 1) := by rw [hrd9]; omega
            refine m_stk (show ([.int (nI rd9), .ref aS] : List Value) = [.int (nI rd9), .ref (ad 50)] from by rw [haS]) ?_
            refine m_put (ci := 4) (C := RX4) (T := TX4) (N' := 14) (ty := .int) hx hb hts (by decide +kernel) tyX4 tyX4_ok nmX4 hown hE hI 50 (by omega) (show g 50 = .inr (4, [.ref (ad 51), .ref (ad 52), .ref (ad 53), .int (bI fig), .int (bI uns), .int (nI play), .ref (ad 54), .ref (ad 55), .ref (ad 56), .int (nI rd), .int (nI came), .int mis, .int lost, .int bel]) from hS.2.1) rfl 9 (by decide) (hts (.fieldLink RL 80 "TapePrinterLaw$Sim" "reader" "I") (by decide +kernel)) rfl (by decide +kernel) rfl rfl (Nat.le_of_ble_eq_true rfl) dL_act_579 (fun H locs hI => ?_)
            obtain ⟨g10, hg10⟩ : ∃ zz, zz = va_up g 50 (.inr (4, [.ref (ad 51), .ref (ad 52), .ref (ad 53), .int (bI fig), .int (bI uns), .int (nI play), .ref (ad 54), .ref (ad 55), .ref (ad 56), .int (nI rd9), .int (nI came), .int mis, .int lost, .int bel])) := ⟨_, rfl⟩
            replace hI : mI k ad N g10 (mA ad N s.heap.size) s H locs := by rw [hg10]; exact hI
            have hS : SR k ad bs N g10 uns play rd9 n lat gar T (came, mis, lost, bel, fig, u, ln, pg) := by rw [hg10]; exact SR.obj hS
            have hC : CR k ad g10 uns play rd n lat gar T (came, mis, lost, bel, fig, fi, u, z, F) r := by rw [hg10]; exact CR.kept hC (fun i hi => va_up_ne _ _ (by omega))
            have hF : FRA ad g bs ad g10 := by rw [hg10]; exact FRA.up hF (by omega)
            refine lv_aload_n hx hb dL_act_582 rfl (lv_at hl 3 rfl) ?_
            refine lv_aload_n hx hb dL_act_583 rfl (lv_at hl 4 rfl) ?_
            refine m_stk (show ([.ref aS, .ref ap] : List Value) = [.ref (ad 50), .ref ap] from by rw [haS]) ?_
            refine m_get (ci := 4) (C := RX4) (T := TX4) (N' := 14) hx hb hts (by decide +kernel) hown hE hI 50 (by omega) (show g10 50 = .inr (4, [.ref (ad 51), .ref (ad 52), .ref (ad 53), .int (bI fig), .int (bI uns), .int (nI play), .ref (ad 54), .ref (ad 55), .ref (ad 56), .int (nI rd9), .int (nI came), .int mis, .int lost, .int bel]) from hS.2.1) rfl 9 (by decide) (hts (.fieldLink RL 80 "TapePrinterLaw$Sim" "reader" "I") (by decide +kernel)) rfl dL_act_584 ?_
            refine m_stk (show ([.int (nI rd9), .ref ap] : List Value) = [.int (nI rd9), .ref (ad 0)] from by rw [hap]) ?_
            refine m_callVn (As := [.int (nI rd9)]) (rest := []) (c1 := 1) (s1 := 6) ⟨hx, hb, hml, hown, hts⟩ hE hI (c_X3_wind k l hst ad N g10 _ uns play rd n lat gar T came mis lost bel fig fi u z F r (nI rd9) (by omega) hW hwf (by omega) hC) (fun E h => absurd (inN_nI (n := (n + 1)) (show rd9 < (n + 1) by omega) (by omega)) (by rw [h.2]; decide)) (cwV 1 hts gL_act_X3_wind rfl rfl rfl (by decide +kernel) ⟨Nat.le_of_ble_eq_true rfl, Nat.le_of_ble_eq_true rfl⟩) (i := 0) (by omega) hC.1 rfl rfl hl.1 rfl (Nat.le_of_ble_eq_true rfl) dL_act_587 (by omega) (by omega) ⟨(by show _ ≤ 481; omega), (by show _ ≤ 8406; omega)⟩ (fun r9 g9 H locs hp hI => ?_)
            obtain ⟨g11, hg11⟩ : ∃ zz, zz = g9 := ⟨_, rfl⟩
            rw [← hg11] at hp hI
            obtain ⟨_, hr9, hC9, hk9⟩ := hp
            rw [tn_nI (j := rd9) (by omega)] at hC9
            subst hr9
            have hI : mI k ad N g11 (mA ad N s.heap.size) s H locs := hI
            have hC : CR k ad g11 uns play rd9 n lat gar T (came, mis, lost, bel, fig, fi, u, z, F) r := hC9
            have hS : SR k ad bs N g11 uns play rd9 n lat gar T (came, mis, lost, bel, fig, u, ln, pg) := SR.kept hS hk9
            have hF : FRA ad g bs ad g11 := FRA.go hF (FRA.cl hk9)
            refine lv_iload hx hb dL_act_590 (lv_at hl 0 rfl) ?_
            refine m_cneN (tgt := 599) hx hb (by omega) (by omega) dL_act_592 (by decide) (fun c_592 => ?_) (fun c_592 => ?_)
            · exact absurd rfl c_592
            · refine lv_iconst (v := nI 1) hx hb dL_act_595 (by decide) ?_
              refine lv_goto (tgt := 600) hx hb dL_act_596 (by decide) ?_
              refine m_top (y := bI true) (by decide) ?_
              exact m_gzret hx hb hr hlocks hE hI (post := fun (r : Int32) (ad1 : Nat → Nat) (N1 : Nat) (g1 : Nat → va_E) => r = bI true ∧ FRA ad g bs ad1 g1 ∧ ST k ad1 bs N1 g1 (cm + 120)) (v := true) (⟨rfl, hF, uns, play, rd9, n, lat, gar, T, ((came, mis, lost, bel, fig, fi, u, z, F)), ((came, mis, lost, bel, fig, u, ln, pg)), r, hC, hS, (CW.rd hW (by omega)), hwf, hwv, hYR, (show came ≤ cm + 120 by omega)⟩) (by omega) (by omega) dL_act_600
          · refine lv_tableOut (tgt := 601) hx hb dL_act_25 (by decide) (by decide) ?_
            exact K601 H locs hI
          · refine lv_tableOut (tgt := 601) hx hb dL_act_25 (by decide) (by decide) ?_
            exact K601 H locs hI
          · refine lv_tableOut (tgt := 601) hx hb dL_act_25 (by decide) (by decide) ?_
            exact K601 H locs hI
          · refine lv_tableOut (tgt := 601) hx hb dL_act_25 (by decide) (by decide) ?_
            exact K601 H locs hI
        · refine lv_iconst (v := nI 1) hx hb dL_act_601 (by decide) ?_
          refine lv_iload_n hx hb dL_act_602 rfl (lv_at hl 4 rfl) ?_
          refine lv_iconst (v := nI 1) hx hb dL_act_603 (by decide) ?_
          refine lv_ishr hx hb dL_act_604 ?_
          refine lv_iload_n hx hb dL_act_605 rfl (lv_at hl 4 rfl) ?_
          refine lv_bipush (v := nI 6) hx hb dL_act_606 (by decide) ?_
          refine lv_ishr hx hb dL_act_608 ?_
          refine lv_iconst (v := nI 2) hx hb dL_act_609 (by decide) ?_
          refine m_callSi (As := [.int (p0 >>> ((nI 6) &&& 31)), .int (nI 2)]) (rest := [.int (p0 >>> ((nI 1) &&& 31)), .int (nI 1)]) ⟨hx, hb, hml, hown, hts⟩ hE hI (c_L_below k l ad N g _ (p0 >>> ((nI 6) &&& 31)) 2 (by omega) (by omega)) (va_cwS 2 hts gL_act_L_below rfl rfl rfl (by decide +kernel) ⟨Nat.le_of_ble_eq_true rfl, Nat.le_of_ble_eq_true rfl⟩) rfl hl.1 rfl (Nat.le_of_ble_eq_true rfl) dL_act_610 ⟨(by show _ ≤ 481; omega), (by show _ ≤ 8406; omega)⟩ (m_deti (fun H locs hI => ?_))
          have hbw_15 := blw_lt (v := p0 >>> ((nI 6) &&& 31)) (b := 2) (by omega)
          obtain ⟨b9, hb9⟩ : ∃ zz, zz = if blw (p0 >>> ((nI 6) &&& 31)) 2 = 0 then 120 else 9 := ⟨_, rfl⟩
          have hbb9 : b9 < 121 := by rw [hb9]; split <;> omega
          have hzb9 : 0 < b9 := by rw [hb9]; split <;> omega
          refine m_via hI 623 ([.int (nI b9), .int (p0 >>> ((nI 1) &&& 31)), .int (nI 1)]) (fun K => ?_) (fun H locs hI => ?_)
          · refine m_zneN (tgt := 621) hx hb (by omega) dL_act_613 (by decide) (fun c_613 => ?_) (fun c_613 => ?_)
            · refine lv_bipush (v := nI 9) hx hb dL_act_621 (by decide) ?_
              refine m_top (show nI 9 = nI b9 from by rw [hb9, if_neg c_613]) ?_
              exact K H locs hI
            · refine lv_bipush (v := nI 120) hx hb dL_act_616 (by decide) ?_
              refine lv_goto (tgt := 623) hx hb dL_act_618 (by decide) ?_
              refine m_top (show nI 120 = nI b9 from by rw [hb9, if_pos c_613]) ?_
              exact K H locs hI
          refine m_callSi (As := [.int (p0 >>> ((nI 1) &&& 31)), .int (nI b9)]) (rest := [.int (nI 1)]) ⟨hx, hb, hml, hown, hts⟩ hE hI (c_L_below k l ad N g _ (p0 >>> ((nI 1) &&& 31)) b9 (by omega) (by omega)) (va_cwS 2 hts gL_act_L_below rfl rfl rfl (by decide +kernel) ⟨Nat.le_of_ble_eq_true rfl, Nat.le_of_ble_eq_true rfl⟩) rfl hl.1 rfl (Nat.le_of_ble_eq_true rfl) dL_act_623 ⟨(by show _ ≤ 481; omega), (by show _ ≤ 8406; omega)⟩ (m_deti (fun H locs hI => ?_))
          have hbw_16 := blw_lt (v := p0 >>> ((nI 1) &&& 31)) (b := b9) (by omega)
          refine m_iaddN hx hb dL_act_626 ?_
          obtain ⟨m9, hm9⟩ : ∃ zz, zz = 1 + (blw (p0 >>> ((nI 1) &&& 31)) b9) := ⟨_, rfl⟩
          refine m_top (show nI (1 + (blw (p0 >>> ((nI 1) &&& 31)) b9)) = nI m9 from by rw [hm9]) ?_
          have hbm9 : m9 < 121 := by rw [hm9]; omega
          have hz9 : 1 ≤ m9 := by rw [hm9]; omega
          have hwv0 := hwv
          refine lv_istore (lv' := [(15, .int (nI m9)), (4, .int (nI co4)), (3, .int (nI n)), (0, .ref ap), (1, .ref aS), (2, .int p0)]) hx hb dL_act_627 hl (by decide) rfl (fun ls hl => ?_)
          refine lv_iconst (v := nI 0) hx hb dL_act_629 (by decide) ?_
          refine lv_istore (lv' := [(16, .int (nI 0)), (15, .int (nI m9)), (4, .int (nI co4)), (3, .int (nI n)), (0, .ref ap), (1, .ref aS), (2, .int p0)]) hx hb dL_act_630 hl (by decide) rfl (fun ls hl => ?_)
          refine m_loopG (σ := Nat × (Nat → Nat) × Nat × (Nat → va_E)) (fun x H locs ls => x.1 ≤ min m9 (n - rd) ∧ mE k x.2.1 x.2.2.1 (mA ad N s.heap.size) s ∧ mI k x.2.1 x.2.2.1 x.2.2.2 (mA ad N s.heap.size) s H locs ∧ FRA ad g bs x.2.1 x.2.2.2 ∧ CR k x.2.1 x.2.2.2 uns play rd n lat gar T (came, mis, lost, bel, fig, fi, u, z, F) r ∧ SR k x.2.1 bs x.2.2.1 x.2.2.2 uns play (rd + x.1) n lat gar T (yRun sNl sFull sAdd uns play lat gar T rd (came, mis, lost, bel, fig, u, ln, pg) x.1) ∧ x.2.1 0 = ap ∧ x.2.1 50 = aS ∧ lv_has ls 17 [(0, .ref ap), (1, .ref aS), (3, .int (nI n)), (15, .int (nI m9)), (16, .int (nI x.1))]) (fun x => m9 - x.1) (fun x => 4 * x.1) (fun x => 70 * x.1) (0, ad, N, g) ⟨Nat.zero_le _, hE, hI, hF, hC, hS, hap, haS, lv_sub hl [4, 5, 3, 1, 0] rfl⟩ ?_
          rintro ⟨i9, adL, NL, gL⟩ ih H locs ls ⟨hi9, hE, hI, hF, hC, hS, hap, haS, hl⟩
          have hi9 : i9 ≤ min m9 (n - rd) := hi9
          obtain ⟨v9, hv9⟩ : ∃ zz, zz = yRun sNl sFull sAdd uns play lat gar T rd (came, mis, lost, bel, fig, u, ln, pg) i9 := ⟨_, rfl⟩
          have hS : SR k adL bs NL gL uns play (rd + i9) n lat gar T v9 := by rw [hv9]; exact hS
          have hwv9 : sWf v9.2.2.2.2.2 := by rw [hv9]; exact sWf_run (y := (came, mis, lost, bel, fig, u, ln, pg)) hwv i9
          have hca9 : v9.1 = came + i9 := by rw [hv9]; exact yRun_1 i9
          obtain ⟨ca, mi, lo, be, fg, uu, lnn, pgg⟩ := v9
          have hca : ca = came + i9 := hca9
          have hwv : sWf (uu, lnn, pgg) := hwv9
          obtain ⟨g12, hg12⟩ : ∃ zz, zz = gL := ⟨_, rfl⟩
          have hE : mE k adL NL (mA ad N s.heap.size) s := hE
          have hI : mI k adL NL g12 (mA ad N s.heap.size) s H locs := by rw [hg12]; exact hI
          have hF : FRA ad g bs adL g12 := by rw [hg12]; exact hF
          have hC : CR k adL g12 uns play rd n lat gar T (came, mis, lost, bel, fig, fi, u, z, F) r := by rw [hg12]; exact hC
          have hS : SR k adL bs NL g12 uns play (rd + i9) n lat gar T (ca, mi, lo, be, fg, uu, lnn, pgg) := by rw [hg12]; exact hS
          have hap : adL 0 = ap := hap
          have haS : adL 50 = aS := haS
          have hNu : bs + uu ≤ NL := hS.1.2
          have hl : lv_has ls 17 [(0, .ref ap), (1, .ref aS), (3, .int (nI n)), (15, .int (nI m9)), (16, .int (nI i9))] := hl
          show W p l e _ s m _ below meth c _ _ (4 * i9) (70 * i9) _ _
          have hT8 := hT (rd + i9)
          refine lv_iload hx hb dL_act_632 (lv_at hl 4 rfl) ?_
          refine lv_iload hx hb dL_act_634 (lv_at hl 3 rfl) ?_
          refine m_cgeN (tgt := 677) hx hb (by omega) (by omega) dL_act_636 (by decide) (fun c_636 => ?_) (fun c_636 => ?_)
          · have hmm : i9 = min m9 (n - rd) := by omega
            refine lv_aload_n hx hb dL_act_677 rfl (lv_at hl 0 rfl) ?_
            refine lv_iload hx hb dL_act_678 (lv_at hl 3 rfl) ?_
            refine m_stk (show ([.int (nI m9), .ref ap] : List Value) = [.int (nI m9), .ref (adL 0)] from by rw [hap]) ?_
            refine m_callVn (As := [.int (nI m9)]) (rest := []) (c1 := 4 * i9 + 1) (s1 := 70 * i9 + 6) ⟨hx, hb, hml, hown, hts⟩ hE hI (c_X3_run k l hst adL NL g12 _ uns play rd n lat gar T came mis lost bel fig fi u z F r (nI m9) (by omega) hW hwf (by omega) hC) (fun E h => absurd (in120_nI m9 (by omega) (by omega)) (by rw [h.2]; decide)) (cwV 1 hts gL_act_X3_run rfl rfl rfl (by decide +kernel) ⟨Nat.le_of_ble_eq_true rfl, Nat.le_of_ble_eq_true rfl⟩) (i := 0) (by omega) hC.1 rfl rfl hl.1 rfl (Nat.le_of_ble_eq_true rfl) dL_act_680 (by omega) (by omega) ⟨(by show _ ≤ 481; omega), (by show _ ≤ 8406; omega)⟩ (fun r9 g9 H locs hp hI => ?_)
            obtain ⟨g13, hg13⟩ : ∃ zz, zz = g9 := ⟨_, rfl⟩
            rw [← hg13] at hp hI
            obtain ⟨_, hr9, hC9, hk9⟩ := hp
            rw [tn_nI (j := m9) (by omega)] at hr9
            rw [tn_nI (j := m9) (by omega)] at hC9
            subst hr9
            have hI : mI k adL NL g13 (mA ad N s.heap.size) s H locs := hI
            have hC : CR k adL g13 uns play (rd + min m9 (n - rd)) n lat gar T (yRun cNl cFull cAdd uns play lat gar T rd (came, mis, lost, bel, fig, fi, u, z, F) (min m9 (n - rd))) r := hC9
            have hS : SR k adL bs NL g13 uns play (rd + i9) n lat gar T (ca, mi, lo, be, fg, uu, lnn, pgg) := SR.kept hS hk9
            have hF : FRA ad g bs adL g13 := FRA.go hF (FRA.cl hk9)
            refine lv_iload hx hb dL_act_683 (lv_at hl 4 rfl) ?_
            refine m_cneN (tgt := 692) hx hb (by omega) (by omega) dL_act_685 (by decide) (fun c_685 => ?_) (fun c_685 => ?_)
            · exact absurd hmm.symm c_685
            · refine lv_iconst (v := nI 1) hx hb dL_act_688 (by decide) ?_
              refine lv_goto (tgt := 693) hx hb dL_act_689 (by decide) ?_
              rw [← hmm] at hC
              rw [hv9] at hS
              refine m_top (y := bI true) (by decide) ?_
              exact m_gzret hx hb hr hlocks hE hI (post := fun (r : Int32) (ad1 : Nat → Nat) (N1 : Nat) (g1 : Nat → va_E) => r = bI true ∧ FRA ad g bs ad1 g1 ∧ ST k ad1 bs N1 g1 (cm + 120)) (v := true) (⟨rfl, hF, uns, play, (rd + i9), n, lat, gar, T, (yRun cNl cFull cAdd uns play lat gar T rd (came, mis, lost, bel, fig, fi, u, z, F) i9), (yRun sNl sFull sAdd uns play lat gar T rd (came, mis, lost, bel, fig, u, ln, pg) i9), r, hC, hS, (CW.rd hW (by omega)), (cWf_run (y := (came, mis, lost, bel, fig, fi, u, z, F)) hwf i9), (sWf_run (y := (came, mis, lost, bel, fig, u, ln, pg)) hwv0 i9), (YRS_run uns play lat gar T rd (y := (came, mis, lost, bel, fig, fi, u, z, F)) (v := (came, mis, lost, bel, fig, u, ln, pg)) hwf hwv0 hYR i9), (by rw [yRun_1]; show came + i9 ≤ cm + 120; omega)⟩) (by omega) (by omega) dL_act_693
          · refine lv_aload_n hx hb dL_act_639 rfl (lv_at hl 1 rfl) ?_
            refine m_stk (show ([.ref aS] : List Value) = [.ref (adL 50)] from by rw [haS]) ?_
            refine m_get (ci := 4) (C := RX4) (T := TX4) (N' := 14) hx hb hts (by decide +kernel) hown hE hI 50 (by omega) (show g12 50 = .inr (4, [.ref (adL 51), .ref (adL 52), .ref (adL 53), .int (bI fg), .int (bI uns), .int (nI play), .ref (adL 54), .ref (adL 55), .ref (adL 56), .int (nI (rd + i9)), .int (nI ca), .int mi, .int lo, .int be]) from hS.2.1) rfl 9 (by decide) (hts (.fieldLink RL 80 "TapePrinterLaw$Sim" "reader" "I") (by decide +kernel)) rfl dL_act_640 ?_
            refine lv_iload_n hx hb dL_act_643 rfl (lv_at hl 2 rfl) ?_
            refine m_cgeN (tgt := 677) hx hb (by omega) (by omega) dL_act_644 (by decide) (fun c_644 => ?_) (fun c_644 => ?_)
            · have hmm : i9 = min m9 (n - rd) := by omega
              refine lv_aload_n hx hb dL_act_677 rfl (lv_at hl 0 rfl) ?_
              refine lv_iload hx hb dL_act_678 (lv_at hl 3 rfl) ?_
              refine m_stk (show ([.int (nI m9), .ref ap] : List Value) = [.int (nI m9), .ref (adL 0)] from by rw [hap]) ?_
              refine m_callVn (As := [.int (nI m9)]) (rest := []) (c1 := 4 * i9 + 1) (s1 := 70 * i9 + 6) ⟨hx, hb, hml, hown, hts⟩ hE hI (c_X3_run k l hst adL NL g12 _ uns play rd n lat gar T came mis lost bel fig fi u z F r (nI m9) (by omega) hW hwf (by omega) hC) (fun E h => absurd (in120_nI m9 (by omega) (by omega)) (by rw [h.2]; decide)) (cwV 1 hts gL_act_X3_run rfl rfl rfl (by decide +kernel) ⟨Nat.le_of_ble_eq_true rfl, Nat.le_of_ble_eq_true rfl⟩) (i := 0) (by omega) hC.1 rfl rfl hl.1 rfl (Nat.le_of_ble_eq_true rfl) dL_act_680 (by omega) (by omega) ⟨(by show _ ≤ 481; omega), (by show _ ≤ 8406; omega)⟩ (fun r9 g9 H locs hp hI => ?_)
              obtain ⟨g14, hg14⟩ : ∃ zz, zz = g9 := ⟨_, rfl⟩
              rw [← hg14] at hp hI
              obtain ⟨_, hr9, hC9, hk9⟩ := hp
              rw [tn_nI (j := m9) (by omega)] at hr9
              rw [tn_nI (j := m9) (by omega)] at hC9
              subst hr9
              have hI : mI k adL NL g14 (mA ad N s.heap.size) s H locs := hI
              have hC : CR k adL g14 uns play (rd + min m9 (n - rd)) n lat gar T (yRun cNl cFull cAdd uns play lat gar T rd (came, mis, lost, bel, fig, fi, u, z, F) (min m9 (n - rd))) r := hC9
              have hS : SR k adL bs NL g14 uns play (rd + i9) n lat gar T (ca, mi, lo, be, fg, uu, lnn, pgg) := SR.kept hS hk9
              have hF : FRA ad g bs adL g14 := FRA.go hF (FRA.cl hk9)
              refine lv_iload hx hb dL_act_683 (lv_at hl 4 rfl) ?_
              refine m_cneN (tgt := 692) hx hb (by omega) (by omega) dL_act_685 (by decide) (fun c_685 => ?_) (fun c_685 => ?_)
              · exact absurd hmm.symm c_685
              · refine lv_iconst (v := nI 1) hx hb dL_act_688 (by decide) ?_
                refine lv_goto (tgt := 693) hx hb dL_act_689 (by decide) ?_
                rw [← hmm] at hC
                rw [hv9] at hS
                refine m_top (y := bI true) (by decide) ?_
                exact m_gzret hx hb hr hlocks hE hI (post := fun (r : Int32) (ad1 : Nat → Nat) (N1 : Nat) (g1 : Nat → va_E) => r = bI true ∧ FRA ad g bs ad1 g1 ∧ ST k ad1 bs N1 g1 (cm + 120)) (v := true) (⟨rfl, hF, uns, play, (rd + i9), n, lat, gar, T, (yRun cNl cFull cAdd uns play lat gar T rd (came, mis, lost, bel, fig, fi, u, z, F) i9), (yRun sNl sFull sAdd uns play lat gar T rd (came, mis, lost, bel, fig, u, ln, pg) i9), r, hC, hS, (CW.rd hW (by omega)), (cWf_run (y := (came, mis, lost, bel, fig, fi, u, z, F)) hwf i9), (sWf_run (y := (came, mis, lost, bel, fig, u, ln, pg)) hwv0 i9), (YRS_run uns play lat gar T rd (y := (came, mis, lost, bel, fig, fi, u, z, F)) (v := (came, mis, lost, bel, fig, u, ln, pg)) hwf hwv0 hYR i9), (by rw [yRun_1]; show came + i9 ≤ cm + 120; omega)⟩) (by omega) (by omega) dL_act_693
            · refine lv_aload_n hx hb dL_act_647 rfl (lv_at hl 1 rfl) ?_
              refine lv_aload_n hx hb dL_act_648 rfl (lv_at hl 1 rfl) ?_
              refine m_stk (show ([.ref aS, .ref aS] : List Value) = [.ref (adL 50), .ref aS] from by rw [haS]) ?_
              refine m_get (ci := 4) (C := RX4) (T := TX4) (N' := 14) hx hb hts (by decide +kernel) hown hE hI 50 (by omega) (show g12 50 = .inr (4, [.ref (adL 51), .ref (adL 52), .ref (adL 53), .int (bI fg), .int (bI uns), .int (nI play), .ref (adL 54), .ref (adL 55), .ref (adL 56), .int (nI (rd + i9)), .int (nI ca), .int mi, .int lo, .int be]) from hS.2.1) rfl 8 (by decide) (hts (.fieldLink RL 19 "TapePrinterLaw$Sim" "tape" "[I") (by decide +kernel)) rfl dL_act_649 ?_
              refine lv_aload_n hx hb dL_act_652 rfl (lv_at hl 1 rfl) ?_
              refine m_stk (show ([.ref aS, .ref (adL 56), .ref aS] : List Value) = [.ref (adL 50), .ref (adL 56), .ref aS] from by rw [haS]) ?_
              refine m_get (ci := 4) (C := RX4) (T := TX4) (N' := 14) hx hb hts (by decide +kernel) hown hE hI 50 (by omega) (show g12 50 = .inr (4, [.ref (adL 51), .ref (adL 52), .ref (adL 53), .int (bI fg), .int (bI uns), .int (nI play), .ref (adL 54), .ref (adL 55), .ref (adL 56), .int (nI (rd + i9)), .int (nI ca), .int mi, .int lo, .int be]) from hS.2.1) rfl 9 (by decide) (hts (.fieldLink RL 80 "TapePrinterLaw$Sim" "reader" "I") (by decide +kernel)) rfl dL_act_653 ?_
              refine m_iald hx hb hE hI 56 (by omega) (j := rd + i9) (show g12 56 = .inl (k.2.1.1, n, .inl (fun j => nI (T j))) from hS.2.2.2.2.2.2.2.1) (by omega) (by omega) dL_act_656 ?_
              refine m_top (show (fun j => nI (T j)) (rd + i9) = nI (T (rd + i9)) from rfl) ?_
              have ht_17 := hT (rd + i9)
              refine m_stk (show ([.int (nI (T (rd + i9))), .ref aS] : List Value) = [.int (nI (T (rd + i9))), .ref (adL 50)] from by rw [haS]) ?_
              refine m_callVgi (As := [.int (nI (T (rd + i9)))]) (rest := []) (c1 := 4 * i9 + 4) (s1 := 70 * i9 + 70) ⟨hx, hb, hml, hown, hts⟩ hE hI (c_X4_come k l adL NL g12 _ uns play (rd + i9) n lat gar T ca mi lo be fg uu lnn pgg bs (T (rd + i9)) (hW.1) (hW.2.2.2.2.2) (hW.2.2.2.1) (by omega) (by omega) hwv hS) (cwV 1 hts gL_act_X4_come rfl rfl rfl (by decide +kernel) ⟨Nat.le_of_ble_eq_true rfl, Nat.le_of_ble_eq_true rfl⟩) (i := 50) (by omega) (show g12 50 = .inr (4, [.ref (adL 51), .ref (adL 52), .ref (adL 53), .int (bI fg), .int (bI uns), .int (nI play), .ref (adL 54), .ref (adL 55), .ref (adL 56), .int (nI (rd + i9)), .int (nI ca), .int mi, .int lo, .int be]) from hS.2.1) rfl rfl hl.1 rfl (Nat.le_of_ble_eq_true rfl) dL_act_657 (by omega) (by omega) ⟨(by show _ ≤ 481; omega), (by show _ ≤ 8406; omega)⟩ (fun r9 ad1 N1 g9 H locs hp hE hI => ?_)
              obtain ⟨g15, hg15⟩ : ∃ zz, zz = g9 := ⟨_, rfl⟩
              rw [← hg15] at hp hI
              obtain ⟨hr9, hFC, hGC, hS9⟩ := hp
              subst hr9
              have hE : mE k ad1 N1 (mA ad N s.heap.size) s := hE
              have hI : mI k ad1 N1 g15 (mA ad N s.heap.size) s H locs := hI
              have hap : ad1 0 = ap := (hFC.1 0 (by omega)).trans hap
              have haS : ad1 50 = aS := (hFC.1 50 (by omega)).trans haS
              have hF : FRA ad g bs ad1 g15 := FRA.go hF hFC
              have hC : CR k ad1 g15 uns play rd n lat gar T (came, mis, lost, bel, fig, fi, u, z, F) r := CR.moved hC (fun i hi => hFC.1 i (by omega)) hGC
              obtain ⟨v8, hv8⟩ : ∃ zz, zz = yIn sNl sFull sAdd uns play lat gar (T (rd + i9)) (ca, mi, lo, be, fg, uu, lnn, pgg) := ⟨_, rfl⟩
              rw [← hv8] at hS9
              obtain ⟨ca8, mi8, lo8, be8, fg8, uu8, ln8, pg8⟩ := v8
              have hS : SR k ad1 bs N1 g15 uns play (rd + i9) n lat gar T (ca8, mi8, lo8, be8, fg8, uu8, ln8, pg8) := hS9
              have hNu : bs + uu8 ≤ N1 := hS.1.2
              refine lv_pop hx hb dL_act_660 rfl ?_
              refine lv_aload_n hx hb dL_act_661 rfl (lv_at hl 1 rfl) ?_
              refine lv_dup hx hb dL_act_662 rfl ?_
              refine m_stk (show ([.ref aS, .ref aS] : List Value) = [.ref (ad1 50), .ref aS] from by rw [haS]) ?_
              refine m_get (ci := 4) (C := RX4) (T := TX4) (N' := 14) hx hb hts (by decide +kernel) hown hE hI 50 (by omega) (show g15 50 = .inr (4, [.ref (ad1 51), .ref (ad1 52), .ref (ad1 53), .int (bI fg8), .int (bI uns), .int (nI play), .ref (ad1 54), .ref (ad1 55), .ref (ad1 56), .int (nI (rd + i9)), .int (nI ca8), .int mi8, .int lo8, .int be8]) from hS.2.1) rfl 9 (by decide) (hts (.fieldLink RL 80 "TapePrinterLaw$Sim" "reader" "I") (by decide +kernel)) rfl dL_act_663 ?_
              refine lv_iconst (v := nI 1) hx hb dL_act_666 (by decide) ?_
              refine m_iaddN hx hb dL_act_667 ?_
              refine m_stk (show ([.int (nI ((rd + i9) + 1)), .ref aS] : List Value) = [.int (nI ((rd + i9) + 1)), .ref (ad1 50)] from by rw [haS]) ?_
              refine m_put (ci := 4) (C := RX4) (T := TX4) (N' := 14) (ty := .int) hx hb hts (by decide +kernel) tyX4 tyX4_ok nmX4 hown hE hI 50 (by omega) (show g15 50 = .inr (4, [.ref (ad1 51), .ref (ad1 52), .ref (ad1 53), .int (bI fg8), .int (bI uns), .int (nI play), .ref (ad1 54), .ref (ad1 55), .ref (ad1 56), .int (nI (rd + i9)), .int (nI ca8), .int mi8, .int lo8, .int be8]) from hS.2.1) rfl 9 (by decide) (hts (.fieldLink RL 80 "TapePrinterLaw$Sim" "reader" "I") (by decide +kernel)) rfl (by decide +kernel) rfl rfl (Nat.le_of_ble_eq_true rfl) dL_act_668 (fun H locs hI => ?_)
              obtain ⟨g16, hg16⟩ : ∃ zz, zz = va_up g15 50 (.inr (4, [.ref (ad1 51), .ref (ad1 52), .ref (ad1 53), .int (bI fg8), .int (bI uns), .int (nI play), .ref (ad1 54), .ref (ad1 55), .ref (ad1 56), .int (nI ((rd + i9) + 1)), .int (nI ca8), .int mi8, .int lo8, .int be8])) := ⟨_, rfl⟩
              replace hI : mI k ad1 N1 g16 (mA ad N s.heap.size) s H locs := by rw [hg16]; exact hI
              have hS : SR k ad1 bs N1 g16 uns play ((rd + i9) + 1) n lat gar T (ca8, mi8, lo8, be8, fg8, uu8, ln8, pg8) := by rw [hg16]; exact SR.obj hS
              have hC : CR k ad1 g16 uns play rd n lat gar T (came, mis, lost, bel, fig, fi, u, z, F) r := by rw [hg16]; exact CR.kept hC (fun i hi => va_up_ne _ _ (by omega))
              have hF : FRA ad g bs ad1 g16 := by rw [hg16]; exact FRA.up hF (by omega)
              refine lv_iinc (v := nI (i9 + 1)) (lv' := [(16, .int (nI (i9 + 1))), (0, .ref ap), (1, .ref aS), (3, .int (nI n)), (15, .int (nI m9))]) hx hb dL_act_671 hl (k := 4) rfl (nI_add i9 1) (by decide) rfl (fun ls hl => ?_)
              refine lv_goto (tgt := 632) hx hb dL_act_674 (by decide) ?_
              refine m_cs (c1 := 4 * (i9 + 1)) (s1 := 70 * (i9 + 1)) (by omega) (by omega) ?_
              refine ih (i9 + 1, ad1, N1, g16) (by show m9 - (i9 + 1) < m9 - i9; omega) _ _ _ ⟨by show i9 + 1 ≤ min m9 (n - rd); omega, hE, hI, hF, hC, ?_, hap, haS, lv_sub hl [1, 2, 3, 4, 0] rfl⟩
              show SR k ad1 bs N1 g16 uns play (rd + i9 + 1) n lat gar T (yIn sNl sFull sAdd uns play lat gar (T (rd + i9)) (yRun sNl sFull sAdd uns play lat gar T rd (came, mis, lost, bel, fig, u, ln, pg) i9))
              rw [← hv9, ← hv8]; exact hS
      · refine lv_iconst (v := nI 1) hx hb dL_act_357 (by decide) ?_
        refine lv_iload_n hx hb dL_act_358 rfl (lv_at hl 4 rfl) ?_
        refine lv_iconst (v := nI 1) hx hb dL_act_359 (by decide) ?_
        refine lv_ishr hx hb dL_act_360 ?_
        refine lv_bipush (v := nI 54) hx hb dL_act_361 (by decide) ?_
        refine m_callSi (As := [.int (p0 >>> ((nI 1) &&& 31)), .int (nI 54)]) (rest := [.int (nI 1)]) ⟨hx, hb, hml, hown, hts⟩ hE hI (c_L_below k l ad N g _ (p0 >>> ((nI 1) &&& 31)) 54 (by omega) (by omega)) (va_cwS 2 hts gL_act_L_below rfl rfl rfl (by decide +kernel) ⟨Nat.le_of_ble_eq_true rfl, Nat.le_of_ble_eq_true rfl⟩) rfl hl.1 rfl (Nat.le_of_ble_eq_true rfl) dL_act_363 ⟨(by show _ ≤ 481; omega), (by show _ ≤ 8406; omega)⟩ (m_deti (fun H locs hI => ?_))
        have hbw_18 := blw_lt (v := p0 >>> ((nI 1) &&& 31)) (b := 54) (by omega)
        refine m_iaddN hx hb dL_act_366 ?_
        obtain ⟨x9, hx9⟩ : ∃ zz, zz = 1 + (blw (p0 >>> ((nI 1) &&& 31)) 54) := ⟨_, rfl⟩
        refine m_top (show nI (1 + (blw (p0 >>> ((nI 1) &&& 31)) 54)) = nI x9 from by rw [hx9]) ?_
        have hbx9 : x9 < 55 := by rw [hx9]; omega
        have hx1 : 1 ≤ x9 := by rw [hx9]; omega
        refine lv_istore (lv' := [(10, .int (nI x9)), (4, .int (nI co4)), (3, .int (nI n)), (0, .ref ap), (1, .ref aS), (2, .int p0)]) hx hb dL_act_367 hl (by decide) rfl (fun ls hl => ?_)
        refine lv_aload_n hx hb dL_act_369 rfl (lv_at hl 4 rfl) ?_
        refine m_stk (show ([.ref aS] : List Value) = [.ref (ad 50)] from by rw [haS]) ?_
        refine m_callVgq (As := []) (rest := []) (c1 := 1) (s1 := (n + 1)) ⟨hx, hb, hml, hown, hts⟩ hE hI (c_X4_shifts k l ad N g _ uns play rd n lat gar T came mis lost bel fig u ln pg bs (by omega) (hW.2.2.2.2.1) hS) (cwV 0 hts gL_act_X4_shifts rfl rfl rfl (by decide +kernel) ⟨Nat.le_of_ble_eq_true rfl, Nat.le_of_ble_eq_true rfl⟩) (i := 50) (by omega) (show g 50 = .inr (4, [.ref (ad 51), .ref (ad 52), .ref (ad 53), .int (bI fig), .int (bI uns), .int (nI play), .ref (ad 54), .ref (ad 55), .ref (ad 56), .int (nI rd), .int (nI came), .int mis, .int lost, .int bel]) from hS.2.1) rfl rfl hl.1 rfl (Nat.le_of_ble_eq_true rfl) dL_act_370 (by omega) (by omega) ⟨(by show _ ≤ 481; omega), (by show _ ≤ 8406; omega)⟩ (fun r9 ad2 N2 g9 H locs hp hE hI => ?_)
        obtain ⟨g17, hg17⟩ : ∃ zz, zz = g9 := ⟨_, rfl⟩
        rw [← hg17] at hp hI
        obtain ⟨hr2, hn2, hag2, hgg2, hnw2⟩ := hp
        subst hn2
        have hE : mE k ad2 (N + 1) (mA ad N s.heap.size) s := hE
        have hI : mI k ad2 (N + 1) g17 (mA ad N s.heap.size) s H locs := hI
        subst hr2
        replace hgg2 : ∀ i, i < N → g17 i = g i := hgg2
        have hap : ad2 0 = ap := by rw [hag2 0 (by omega)]; exact hap
        have haS : ad2 50 = aS := by rw [hag2 50 (by omega)]; exact haS
        have hS : SR k ad2 bs (N + 1) g17 uns play rd n lat gar T (came, mis, lost, bel, fig, u, ln, pg) := SR.grow hS (by omega) (fun i hi => hag2 i (by omega)) (fun i hi => hgg2 i (by omega))
        have hC : CR k ad2 g17 uns play rd n lat gar T (came, mis, lost, bel, fig, fi, u, z, F) r := CR.moved hC (fun i hi => hag2 i (by omega)) (fun i hi => hgg2 i (by omega))
        have hF : FRA ad g bs ad2 g17 := FRA.go hF (FRA.of (N := N) (by omega) (by omega) (fun i hi => hag2 i (by omega)) (fun i hi => hgg2 i (by omega)))
        have hnw2 : g17 N = .inl (k.2.1.2.2.1, (n + 1), .inl (fun j => bI (fa uns T j))) := hnw2
        show W p l e _ s m _ below meth c _ _ _ _ _ (F0 m _ _ (.ref (ad2 N) :: _))
        refine lv_iload_n hx hb dL_act_373 rfl (lv_at hl 2 rfl) ?_
        refine m_zald hx hb hE hI N (by omega) (j := n) hnw2 (by omega) (by omega) dL_act_374 ?_
        refine m_top (show (fun j => bI (fa uns T j)) n = bI (fa uns T n) from rfl) ?_
        refine lv_istore (lv' := [(11, .int (bI (fa uns T n))), (10, .int (nI x9)), (4, .int (nI co4)), (3, .int (nI n)), (0, .ref ap), (1, .ref aS), (2, .int p0)]) hx hb dL_act_375 hl (by decide) rfl (fun ls hl => ?_)
        refine m_via hI 406 ([.int (bI (tyS uns T n x9))]) (fun K => ?_) (fun H locs hI => ?_)
        · refine lv_iload hx hb dL_act_377 (lv_at hl 1 rfl) ?_
          refine lv_bipush (v := nI 53) hx hb dL_act_379 (by decide) ?_
          refine m_cgeN (tgt := 405) hx hb (by omega) (by omega) dL_act_381 (by decide) (fun c_381 => ?_) (fun c_381 => ?_)
          · refine lv_iconst (v := nI 0) hx hb dL_act_405 (by decide) ?_
            refine m_top (show nI 0 = bI (tyS uns T n x9) from by rw [show tyS uns T n x9 = false from by unfold tyS; rw [dep53 x9 (by omega) (by omega), show decide (x9 < 53) = false from decide_eq_false (by omega)]; rfl] <;> rfl) ?_
            exact K H locs hI
          · refine lv_iload hx hb dL_act_384 (lv_at hl 1 rfl) ?_
            refine lv_bipush (v := nI 26) hx hb dL_act_386 (by decide) ?_
            refine m_cleN (tgt := 395) hx hb (by omega) (by omega) dL_act_388 (by decide) (fun c_388 => ?_) (fun c_388 => ?_)
            · refine lv_iconst (v := nI 0) hx hb dL_act_395 (by decide) ?_
              refine m_top (show nI 0 = bI false from rfl) ?_
              refine lv_iload hx hb dL_act_396 (lv_at hl 0 rfl) ?_
              refine m_ceqB (tgt := 405) hx hb dL_act_398 (by decide) (fun c_398 => ?_) (fun c_398 => ?_)
              · refine lv_iconst (v := nI 0) hx hb dL_act_405 (by decide) ?_
                refine m_top (show nI 0 = bI (tyS uns T n x9) from by rw [show tyS uns T n x9 = false from by unfold tyS; rw [dep53 x9 (by omega) (by omega), show decide (x9 < 53) = true from decide_eq_true (by omega), show decide (26 < x9) = false from decide_eq_false (by omega)]; revert c_398; generalize fa uns T n = w9; cases w9 <;> decide] <;> rfl) ?_
                exact K H locs hI
              · refine lv_iconst (v := nI 1) hx hb dL_act_401 (by decide) ?_
                refine lv_goto (tgt := 406) hx hb dL_act_402 (by decide) ?_
                refine m_top (show nI 1 = bI (tyS uns T n x9) from by rw [show tyS uns T n x9 = true from by unfold tyS; rw [dep53 x9 (by omega) (by omega), show decide (x9 < 53) = true from decide_eq_true (by omega), show decide (26 < x9) = false from decide_eq_false (by omega)]; revert c_398; generalize fa uns T n = w9; cases w9 <;> decide] <;> rfl) ?_
                exact K H locs hI
            · refine lv_iconst (v := nI 1) hx hb dL_act_391 (by decide) ?_
              refine lv_goto (tgt := 396) hx hb dL_act_392 (by decide) ?_
              refine m_top (show nI 1 = bI true from rfl) ?_
              refine lv_iload hx hb dL_act_396 (lv_at hl 0 rfl) ?_
              refine m_ceqB (tgt := 405) hx hb dL_act_398 (by decide) (fun c_398 => ?_) (fun c_398 => ?_)
              · refine lv_iconst (v := nI 0) hx hb dL_act_405 (by decide) ?_
                refine m_top (show nI 0 = bI (tyS uns T n x9) from by rw [show tyS uns T n x9 = false from by unfold tyS; rw [dep53 x9 (by omega) (by omega), show decide (x9 < 53) = true from decide_eq_true (by omega), show decide (26 < x9) = true from decide_eq_true (by omega)]; revert c_398; generalize fa uns T n = w9; cases w9 <;> decide] <;> rfl) ?_
                exact K H locs hI
              · refine lv_iconst (v := nI 1) hx hb dL_act_401 (by decide) ?_
                refine lv_goto (tgt := 406) hx hb dL_act_402 (by decide) ?_
                refine m_top (show nI 1 = bI (tyS uns T n x9) from by rw [show tyS uns T n x9 = true from by unfold tyS; rw [dep53 x9 (by omega) (by omega), show decide (x9 < 53) = true from decide_eq_true (by omega), show decide (26 < x9) = true from decide_eq_true (by omega)]; revert c_398; generalize fa uns T n = w9; cases w9 <;> decide] <;> rfl) ?_
                exact K H locs hI
        refine lv_istore (lv' := [(12, .int (bI (tyS uns T n x9))), (11, .int (bI (fa uns T n))), (10, .int (nI x9)), (4, .int (nI co4)), (3, .int (nI n)), (0, .ref ap), (1, .ref aS), (2, .int p0)]) hx hb dL_act_406 hl (by decide) rfl (fun ls hl => ?_)
        refine lv_iload_n hx hb dL_act_408 rfl (lv_at hl 4 rfl) ?_
        refine lv_iload hx hb dL_act_409 (lv_at hl 0 rfl) ?_
        refine m_via hI 419 ([.int (nI (tyN uns T n x9)), .int (nI n)]) (fun K => ?_) (fun H locs hI => ?_)
        · refine m_zeqB (tgt := 418) hx hb dL_act_411 (by decide) (fun c_411 => ?_) (fun c_411 => ?_)
          · refine lv_iconst (v := nI 1) hx hb dL_act_418 (by decide) ?_
            refine m_top (show nI 1 = nI (tyN uns T n x9) from by unfold tyN; rw [if_neg (by rw [c_411]; decide)]) ?_
            exact K H locs hI
          · refine lv_iconst (v := nI 2) hx hb dL_act_414 (by decide) ?_
            refine lv_goto (tgt := 419) hx hb dL_act_415 (by decide) ?_
            refine m_top (show nI 2 = nI (tyN uns T n x9) from by unfold tyN; rw [if_pos c_411]) ?_
            exact K H locs hI
        have htn2 : tyN uns T n x9 ≤ 2 := by unfold tyN; split <;> omega
        refine m_iaddN hx hb dL_act_419 ?_
        refine lv_bipush (v := nI 120) hx hb dL_act_420 (by decide) ?_
        refine m_cleN (tgt := 427) hx hb (by omega) (by omega) dL_act_422 (by decide) (fun c_422 => ?_) (fun c_422 => ?_)
        · refine lv_iload hx hb dL_act_427 (lv_at hl 0 rfl) ?_
          refine m_zeqB (tgt := 457) hx hb dL_act_429 (by decide) (fun c_429 => ?_) (fun c_429 => ?_)
          · have htn3 : tyN uns T n x9 = 1 := by unfold tyN; rw [if_neg (by rw [c_429]; decide)]
            refine lv_aload_n hx hb dL_act_457 rfl (lv_at hl 6 rfl) ?_
            refine lv_aload_n hx hb dL_act_458 rfl (lv_at hl 6 rfl) ?_
            refine m_stk (show ([.ref aS, .ref aS] : List Value) = [.ref (ad2 50), .ref aS] from by rw [haS]) ?_
            refine m_get (ci := 4) (C := RX4) (T := TX4) (N' := 14) hx hb hts (by decide +kernel) hown hE hI 50 (by omega) (show g17 50 = .inr (4, [.ref (ad2 51), .ref (ad2 52), .ref (ad2 53), .int (bI fig), .int (bI uns), .int (nI play), .ref (ad2 54), .ref (ad2 55), .ref (ad2 56), .int (nI rd), .int (nI came), .int mis, .int lost, .int bel]) from hS.2.1) rfl 8 (by decide) (hts (.fieldLink RL 19 "TapePrinterLaw$Sim" "tape" "[I") (by decide +kernel)) rfl dL_act_459 ?_
            refine m_callSgq (As := []) (rest := [.ref (ad2 56), .ref aS]) (c1 := 2) (s1 := (n + 1) + 55) ⟨hx, hb, hml, hown, hts⟩ hE hI (c_L_codes k l ad2 (N + 1) g17 _) (va_cwS 0 hts gL_act_L_codes rfl rfl rfl (by decide +kernel) ⟨Nat.le_of_ble_eq_true rfl, Nat.le_of_ble_eq_true rfl⟩) rfl hl.1 rfl (Nat.le_of_ble_eq_true rfl) dL_act_462 (by omega) (by omega) ⟨(by show _ ≤ 481; omega), (by show _ ≤ 8406; omega)⟩ (fun r9 ad3 N3 g9 H locs hp hE hI => ?_)
            obtain ⟨g18, hg18⟩ : ∃ zz, zz = g9 := ⟨_, rfl⟩
            rw [← hg18] at hp hI
            obtain ⟨hr3, hn3, hag3, hgg3, hnw3⟩ := hp
            subst hn3
            have hE : mE k ad3 (N + 2) (mA ad N s.heap.size) s := hE
            have hI : mI k ad3 (N + 2) g18 (mA ad N s.heap.size) s H locs := hI
            subst hr3
            replace hgg3 : ∀ i, i < N + 1 → g18 i = g17 i := hgg3
            have hap : ad3 0 = ap := by rw [hag3 0 (by omega)]; exact hap
            have haS : ad3 50 = aS := by rw [hag3 50 (by omega)]; exact haS
            have hS : SR k ad3 bs (N + 2) g18 uns play rd n lat gar T (came, mis, lost, bel, fig, u, ln, pg) := SR.grow hS (by omega) (fun i hi => hag3 i (by omega)) (fun i hi => hgg3 i (by omega))
            have hC : CR k ad3 g18 uns play rd n lat gar T (came, mis, lost, bel, fig, fi, u, z, F) r := CR.moved hC (fun i hi => hag3 i (by omega)) (fun i hi => hgg3 i (by omega))
            have hF : FRA ad g bs ad3 g18 := FRA.go hF (FRA.of (N := (N + 1)) (by omega) (by omega) (fun i hi => hag3 i (by omega)) (fun i hi => hgg3 i (by omega)))
            have hnw2 : g18 N = .inl (k.2.1.2.2.1, (n + 1), .inl (fun j => bI (fa uns T j))) := by rw [hgg3 _ (by omega)]; exact hnw2
            have hnw3 : g18 (N + 1) = .inl (k.2.1.1, 55, .inl (fun j => nI (cd j))) := hnw3
            show W p l e _ s m _ below meth c _ _ _ _ _ (F0 m _ _ (.ref (ad3 (N + 1)) :: _))
            refine m_stk (show ([.ref (ad3 (N + 1)), .ref (ad2 56), .ref aS] : List Value) = [.ref (ad3 (N + 1)), .ref (ad3 56), .ref aS] from by rw [hag3 56 (by omega)]) ?_
            have hcd32 := cd_lt x9 (by omega)
            refine lv_iload hx hb dL_act_465 (lv_at hl 2 rfl) ?_
            refine m_iald hx hb hE hI (N + 1) (by omega) (j := x9) hnw3 (by omega) (by omega) dL_act_467 ?_
            refine m_top (show (fun j => nI (cd j)) x9 = nI (cd x9) from rfl) ?_
            refine m_callSgq (As := [.ref (ad3 56), .int (nI (cd x9))]) (rest := [.ref aS]) (c1 := 3) (s1 := (n + 1) + 55 + (n + 1)) ⟨hx, hb, hml, hown, hts⟩ hE hI (c_X4_more k l ad3 (N + 2) g18 _ 56 n (fun j => nI (T j)) (fun i => nI (va_up T n (cd x9) i)) (nI (cd x9)) (by omega) (by omega) (show g18 56 = .inl (k.2.1.1, n, .inl (fun j => nI (T j))) from hS.2.2.2.2.2.2.2.1) (fun j hj => by rw [va_up_ne _ _ (by omega)]) (by rw [va_up_self])) (va_cwS 2 hts gL_act_X4_more rfl rfl rfl (by decide +kernel) ⟨Nat.le_of_ble_eq_true rfl, Nat.le_of_ble_eq_true rfl⟩) rfl hl.1 rfl (Nat.le_of_ble_eq_true rfl) dL_act_468 (by omega) (by omega) ⟨(by show _ ≤ 481; omega), (by show _ ≤ 8406; omega)⟩ (fun r9 ad4 N4 g9 H locs hp hE hI => ?_)
            obtain ⟨g19, hg19⟩ : ∃ zz, zz = g9 := ⟨_, rfl⟩
            rw [← hg19] at hp hI
            obtain ⟨hr4, hn4, hag4, hgg4, hnw4⟩ := hp
            subst hn4
            have hE : mE k ad4 (N + 3) (mA ad N s.heap.size) s := hE
            have hI : mI k ad4 (N + 3) g19 (mA ad N s.heap.size) s H locs := hI
            subst hr4
            replace hgg4 : ∀ i, i < N + 2 → g19 i = g18 i := hgg4
            have hap : ad4 0 = ap := by rw [hag4 0 (by omega)]; exact hap
            have haS : ad4 50 = aS := by rw [hag4 50 (by omega)]; exact haS
            have hS : SR k ad4 bs (N + 3) g19 uns play rd n lat gar T (came, mis, lost, bel, fig, u, ln, pg) := SR.grow hS (by omega) (fun i hi => hag4 i (by omega)) (fun i hi => hgg4 i (by omega))
            have hC : CR k ad4 g19 uns play rd n lat gar T (came, mis, lost, bel, fig, fi, u, z, F) r := CR.moved hC (fun i hi => hag4 i (by omega)) (fun i hi => hgg4 i (by omega))
            have hF : FRA ad g bs ad4 g19 := FRA.go hF (FRA.of (N := (N + 2)) (by omega) (by omega) (fun i hi => hag4 i (by omega)) (fun i hi => hgg4 i (by omega)))
            have hnw2 : g19 N = .inl (k.2.1.2.2.1, (n + 1), .inl (fun j => bI (fa uns T j))) := by rw [hgg4 _ (by omega)]; exact hnw2
            have hnw3 : g19 (N + 1) = .inl (k.2.1.1, 55, .inl (fun j => nI (cd j))) := by rw [hgg4 _ (by omega)]; exact hnw3
            have hnw4 : g19 (N + 2) = .inl (k.2.1.1, (n + 1), .inl (fun i => nI (va_up T n (cd x9) i))) := hnw4
            show W p l e _ s m _ below meth c _ _ _ _ _ (F0 m _ _ (.ref (ad4 (N + 2)) :: _))
            refine m_stk (show ([.ref (ad4 (N + 2)), .ref aS] : List Value) = [.ref (ad4 (N + 2)), .ref (ad4 50)] from by rw [haS]) ?_
            refine m_put (ci := 4) (C := RX4) (T := TX4) (N' := 14) (ty := .array .int) hx hb hts (by decide +kernel) tyX4 tyX4_ok nmX4 hown hE hI 50 (by omega) (show g19 50 = .inr (4, [.ref (ad4 51), .ref (ad4 52), .ref (ad4 53), .int (bI fig), .int (bI uns), .int (nI play), .ref (ad4 54), .ref (ad4 55), .ref (ad4 56), .int (nI rd), .int (nI came), .int mis, .int lost, .int bel]) from hS.2.1) rfl 8 (by decide) (hts (.fieldLink RL 19 "TapePrinterLaw$Sim" "tape" "[I") (by decide +kernel)) rfl (by decide +kernel) rfl rfl (Nat.le_of_ble_eq_true rfl) dL_act_471 (fun H locs hI => ?_)
            obtain ⟨adP1, gP, hE, hI, hFP, hGP, hS⟩ := SR.tape (N + 2) (n + 1) (va_up T n (cd x9)) hE hI hS (by omega) hnw4
            obtain ⟨g20, hg20⟩ : ∃ zz, zz = gP := ⟨_, rfl⟩
            rw [← hg20] at hI hFP hGP hS
            have hE : mE k adP1 (bs + u) (mA ad N s.heap.size) s := hE
            have hI : mI k adP1 (bs + u) g20 (mA ad N s.heap.size) s H locs := hI
            have hS : SR k adP1 bs (bs + u) g20 uns play rd (n + 1) lat gar (va_up T n (cd x9)) (came, mis, lost, bel, fig, u, ln, pg) := hS
            have hF : FRA ad g bs adP1 g20 := FRA.go hF hFP
            have hC : CR k adP1 g20 uns play rd n lat gar T (came, mis, lost, bel, fig, fi, u, z, F) r := CR.moved hC (fun i hi => hFP.1 i (by omega)) hGP
            have hap : adP1 0 = ap := (hFP.1 0 (by omega)).trans hap
            have haS : adP1 50 = aS := (hFP.1 50 (by omega)).trans haS
            refine lv_aload_n hx hb dL_act_474 rfl (lv_at hl 5 rfl) ?_
            refine lv_iload hx hb dL_act_475 (lv_at hl 2 rfl) ?_
            refine m_stk (show ([.int (nI x9), .ref ap] : List Value) = [.int (nI x9), .ref (adP1 0)] from by rw [hap]) ?_
            refine m_callVn (As := [.int (nI x9)]) (rest := []) (c1 := 4) (s1 := (n + 1) + 55 + (n + 1) + 6) ⟨hx, hb, hml, hown, hts⟩ hE hI (c_X3_type k l hst adP1 (bs + u) g20 _ uns play rd n lat gar T came mis lost bel fig fi u z F r (nI x9) (by omega) hW hwf (by omega) hC) (fun E h => h.elim (fun h => absurd (inC_nI x9 (by omega) (by omega)) (by rw [h.2]; decide)) (fun h => absurd h.2.2 (by rw [tn_nI (j := x9) (by omega)]; omega))) (cwV 1 hts gL_act_X3_type rfl rfl rfl (by decide +kernel) ⟨Nat.le_of_ble_eq_true rfl, Nat.le_of_ble_eq_true rfl⟩) (i := 0) (by omega) hC.1 rfl rfl hl.1 rfl (Nat.le_of_ble_eq_true rfl) dL_act_477 (by omega) (by omega) ⟨(by show _ ≤ 481; omega), (by show _ ≤ 8406; omega)⟩ (fun r9 g9 H locs hp hI => ?_)
            obtain ⟨g21, hg21⟩ : ∃ zz, zz = g9 := ⟨_, rfl⟩
            rw [← hg21] at hp hI
            obtain ⟨_, _, hr9, hC9, hk9⟩ := hp
            rw [tn_nI (j := x9) (by omega)] at hr9
            rw [tn_nI (j := x9) (by omega)] at hC9
            subst hr9
            have hI : mI k adP1 (bs + u) g21 (mA ad N s.heap.size) s H locs := hI
            have hC : CR k adP1 g21 uns play rd (n + tyN uns T n x9) lat gar (tyT uns T n x9) (came, mis, lost, bel, fig, fi, u, z, F) r := hC9
            have hS : SR k adP1 bs (bs + u) g21 uns play rd (n + 1) lat gar (va_up T n (cd x9)) (came, mis, lost, bel, fig, u, ln, pg) := SR.kept hS hk9
            have hF : FRA ad g bs adP1 g21 := FRA.go hF (FRA.cl hk9)
            refine lv_iload hx hb dL_act_480 (lv_at hl 0 rfl) ?_
            refine m_zeqB (tgt := 489) hx hb dL_act_482 (by decide) (fun c_482 => ?_) (fun c_482 => ?_)
            · refine lv_iconst (v := nI 1) hx hb dL_act_489 (by decide) ?_
              refine m_cneN (tgt := 497) hx hb (by omega) (by omega) dL_act_490 (by decide) (fun c_490 => ?_) (fun c_490 => ?_)
              · exact absurd (by omega) c_490
              · refine lv_iconst (v := nI 1) hx hb dL_act_493 (by decide) ?_
                refine lv_goto (tgt := 498) hx hb dL_act_494 (by decide) ?_
                have eN : n + tyN uns T n x9 = n + 1 := by rw [htn3]
                have eT : tyT uns T n x9 = va_up T n (cd x9) := by unfold tyT; rw [if_neg (by rw [c_429]; decide)]
                rw [← eN, ← eT] at hS
                refine m_top (y := bI true) (by decide) ?_
                exact m_gzret hx hb hr hlocks hE hI (post := fun (r : Int32) (ad1 : Nat → Nat) (N1 : Nat) (g1 : Nat → va_E) => r = bI true ∧ FRA ad g bs ad1 g1 ∧ ST k ad1 bs N1 g1 (cm + 120)) (v := true) (⟨rfl, hF, uns, play, rd, (n + tyN uns T n x9), lat, gar, (tyT uns T n x9), ((came, mis, lost, bel, fig, fi, u, z, F)), ((came, mis, lost, bel, fig, u, ln, pg)), r, hC, hS, (CW.type hW (by omega) (by omega)), hwf, hwv, hYR, (show came ≤ cm + 120 by omega)⟩) (by omega) (by omega) dL_act_498
            · exact absurd c_482 (by rw [c_429]; decide)
          · refine lv_aload_n hx hb dL_act_432 rfl (lv_at hl 6 rfl) ?_
            refine lv_aload_n hx hb dL_act_433 rfl (lv_at hl 6 rfl) ?_
            refine m_stk (show ([.ref aS, .ref aS] : List Value) = [.ref (ad2 50), .ref aS] from by rw [haS]) ?_
            refine m_get (ci := 4) (C := RX4) (T := TX4) (N' := 14) hx hb hts (by decide +kernel) hown hE hI 50 (by omega) (show g17 50 = .inr (4, [.ref (ad2 51), .ref (ad2 52), .ref (ad2 53), .int (bI fig), .int (bI uns), .int (nI play), .ref (ad2 54), .ref (ad2 55), .ref (ad2 56), .int (nI rd), .int (nI came), .int mis, .int lost, .int bel]) from hS.2.1) rfl 8 (by decide) (hts (.fieldLink RL 19 "TapePrinterLaw$Sim" "tape" "[I") (by decide +kernel)) rfl dL_act_434 ?_
            have hx53 : x9 < 53 := tyS_lt (by omega) (by omega) c_429
            have htn3 : tyN uns T n x9 = 2 := by unfold tyN; rw [if_pos c_429]
            obtain ⟨mk9, hmk9⟩ : ∃ zz, zz = (if decide (26 < x9) && decide (x9 < 53) then 27 else 31) := ⟨_, rfl⟩
            have hk32 : mk9 < 32 := by rw [hmk9]; split <;> omega
            refine m_via hI 451 ([.int (nI mk9), .ref (ad2 56), .ref aS]) (fun K => ?_) (fun H locs hI => ?_)
            · refine lv_iload hx hb dL_act_437 (lv_at hl 2 rfl) ?_
              refine lv_bipush (v := nI 26) hx hb dL_act_439 (by decide) ?_
              refine m_cleN (tgt := 449) hx hb (by omega) (by omega) dL_act_441 (by decide) (fun c_441 => ?_) (fun c_441 => ?_)
              · refine lv_bipush (v := nI 31) hx hb dL_act_449 (by decide) ?_
                refine m_top (show nI 31 = nI mk9 from by rw [hmk9, show decide (26 < x9) = false from decide_eq_false (by omega), show decide (x9 < 53) = true from decide_eq_true (by omega)] <;> rfl) ?_
                exact K H locs hI
              · refine lv_bipush (v := nI 27) hx hb dL_act_444 (by decide) ?_
                refine lv_goto (tgt := 451) hx hb dL_act_446 (by decide) ?_
                refine m_top (show nI 27 = nI mk9 from by rw [hmk9, show decide (26 < x9) = true from decide_eq_true (by omega), show decide (x9 < 53) = true from decide_eq_true (by omega)] <;> rfl) ?_
                exact K H locs hI
            refine m_callSgq (As := [.ref (ad2 56), .int (nI mk9)]) (rest := [.ref aS]) (c1 := 2) (s1 := (n + 1) + (n + 1)) ⟨hx, hb, hml, hown, hts⟩ hE hI (c_X4_more k l ad2 (N + 1) g17 _ 56 n (fun j => nI (T j)) (fun i => nI (va_up T n mk9 i)) (nI mk9) (by omega) (by omega) (show g17 56 = .inl (k.2.1.1, n, .inl (fun j => nI (T j))) from hS.2.2.2.2.2.2.2.1) (fun j hj => by rw [va_up_ne _ _ (by omega)]) (by rw [va_up_self])) (va_cwS 2 hts gL_act_X4_more rfl rfl rfl (by decide +kernel) ⟨Nat.le_of_ble_eq_true rfl, Nat.le_of_ble_eq_true rfl⟩) rfl hl.1 rfl (Nat.le_of_ble_eq_true rfl) dL_act_451 (by omega) (by omega) ⟨(by show _ ≤ 481; omega), (by show _ ≤ 8406; omega)⟩ (fun r9 ad5 N5 g9 H locs hp hE hI => ?_)
            obtain ⟨g22, hg22⟩ : ∃ zz, zz = g9 := ⟨_, rfl⟩
            rw [← hg22] at hp hI
            obtain ⟨hr5, hn5, hag5, hgg5, hnw5⟩ := hp
            subst hn5
            have hE : mE k ad5 (N + 2) (mA ad N s.heap.size) s := hE
            have hI : mI k ad5 (N + 2) g22 (mA ad N s.heap.size) s H locs := hI
            subst hr5
            replace hgg5 : ∀ i, i < N + 1 → g22 i = g17 i := hgg5
            have hap : ad5 0 = ap := by rw [hag5 0 (by omega)]; exact hap
            have haS : ad5 50 = aS := by rw [hag5 50 (by omega)]; exact haS
            have hS : SR k ad5 bs (N + 2) g22 uns play rd n lat gar T (came, mis, lost, bel, fig, u, ln, pg) := SR.grow hS (by omega) (fun i hi => hag5 i (by omega)) (fun i hi => hgg5 i (by omega))
            have hC : CR k ad5 g22 uns play rd n lat gar T (came, mis, lost, bel, fig, fi, u, z, F) r := CR.moved hC (fun i hi => hag5 i (by omega)) (fun i hi => hgg5 i (by omega))
            have hF : FRA ad g bs ad5 g22 := FRA.go hF (FRA.of (N := (N + 1)) (by omega) (by omega) (fun i hi => hag5 i (by omega)) (fun i hi => hgg5 i (by omega)))
            have hnw2 : g22 N = .inl (k.2.1.2.2.1, (n + 1), .inl (fun j => bI (fa uns T j))) := by rw [hgg5 _ (by omega)]; exact hnw2
            have hnw5 : g22 (N + 1) = .inl (k.2.1.1, (n + 1), .inl (fun i => nI (va_up T n mk9 i))) := hnw5
            show W p l e _ s m _ below meth c _ _ _ _ _ (F0 m _ _ (.ref (ad5 (N + 1)) :: _))
            refine m_stk (show ([.ref (ad5 (N + 1)), .ref aS] : List Value) = [.ref (ad5 (N + 1)), .ref (ad5 50)] from by rw [haS]) ?_
            refine m_put (ci := 4) (C := RX4) (T := TX4) (N' := 14) (ty := .array .int) hx hb hts (by decide +kernel) tyX4 tyX4_ok nmX4 hown hE hI 50 (by omega) (show g22 50 = .inr (4, [.ref (ad5 51), .ref (ad5 52), .ref (ad5 53), .int (bI fig), .int (bI uns), .int (nI play), .ref (ad5 54), .ref (ad5 55), .ref (ad5 56), .int (nI rd), .int (nI came), .int mis, .int lost, .int bel]) from hS.2.1) rfl 8 (by decide) (hts (.fieldLink RL 19 "TapePrinterLaw$Sim" "tape" "[I") (by decide +kernel)) rfl (by decide +kernel) rfl rfl (Nat.le_of_ble_eq_true rfl) dL_act_454 (fun H locs hI => ?_)
            obtain ⟨adP2, gP, hE, hI, hFP, hGP, hS⟩ := SR.tape (N + 1) (n + 1) (va_up T n mk9) hE hI hS (by omega) hnw5
            obtain ⟨g23, hg23⟩ : ∃ zz, zz = gP := ⟨_, rfl⟩
            rw [← hg23] at hI hFP hGP hS
            have hE : mE k adP2 (bs + u) (mA ad N s.heap.size) s := hE
            have hI : mI k adP2 (bs + u) g23 (mA ad N s.heap.size) s H locs := hI
            have hS : SR k adP2 bs (bs + u) g23 uns play rd (n + 1) lat gar (va_up T n mk9) (came, mis, lost, bel, fig, u, ln, pg) := hS
            have hF : FRA ad g bs adP2 g23 := FRA.go hF hFP
            have hC : CR k adP2 g23 uns play rd n lat gar T (came, mis, lost, bel, fig, fi, u, z, F) r := CR.moved hC (fun i hi => hFP.1 i (by omega)) hGP
            have hap : adP2 0 = ap := (hFP.1 0 (by omega)).trans hap
            have haS : adP2 50 = aS := (hFP.1 50 (by omega)).trans haS
            refine lv_aload_n hx hb dL_act_457 rfl (lv_at hl 6 rfl) ?_
            refine lv_aload_n hx hb dL_act_458 rfl (lv_at hl 6 rfl) ?_
            refine m_stk (show ([.ref aS, .ref aS] : List Value) = [.ref (adP2 50), .ref aS] from by rw [haS]) ?_
            refine m_get (ci := 4) (C := RX4) (T := TX4) (N' := 14) hx hb hts (by decide +kernel) hown hE hI 50 (by omega) (show g23 50 = .inr (4, [.ref (adP2 51), .ref (adP2 52), .ref (adP2 53), .int (bI fig), .int (bI uns), .int (nI play), .ref (adP2 54), .ref (adP2 55), .ref (adP2 56), .int (nI rd), .int (nI came), .int mis, .int lost, .int bel]) from hS.2.1) rfl 8 (by decide) (hts (.fieldLink RL 19 "TapePrinterLaw$Sim" "tape" "[I") (by decide +kernel)) rfl dL_act_459 ?_
            refine m_callSgq (As := []) (rest := [.ref (adP2 56), .ref aS]) (c1 := 3) (s1 := (n + 1) + (n + 1) + 55) ⟨hx, hb, hml, hown, hts⟩ hE hI (c_L_codes k l adP2 (bs + u) g23 _) (va_cwS 0 hts gL_act_L_codes rfl rfl rfl (by decide +kernel) ⟨Nat.le_of_ble_eq_true rfl, Nat.le_of_ble_eq_true rfl⟩) rfl hl.1 rfl (Nat.le_of_ble_eq_true rfl) dL_act_462 (by omega) (by omega) ⟨(by show _ ≤ 481; omega), (by show _ ≤ 8406; omega)⟩ (fun r9 ad6 N6 g9 H locs hp hE hI => ?_)
            obtain ⟨g24, hg24⟩ : ∃ zz, zz = g9 := ⟨_, rfl⟩
            rw [← hg24] at hp hI
            obtain ⟨hr6, hn6, hag6, hgg6, hnw6⟩ := hp
            subst hn6
            have hE : mE k ad6 (bs + u + 1) (mA ad N s.heap.size) s := hE
            have hI : mI k ad6 (bs + u + 1) g24 (mA ad N s.heap.size) s H locs := hI
            subst hr6
            replace hgg6 : ∀ i, i < bs + u → g24 i = g23 i := hgg6
            have hap : ad6 0 = ap := by rw [hag6 0 (by omega)]; exact hap
            have haS : ad6 50 = aS := by rw [hag6 50 (by omega)]; exact haS
            have hS : SR k ad6 bs (bs + u + 1) g24 uns play rd (n + 1) lat gar (va_up T n mk9) (came, mis, lost, bel, fig, u, ln, pg) := SR.grow hS (by omega) (fun i hi => hag6 i (by omega)) (fun i hi => hgg6 i (by omega))
            have hC : CR k ad6 g24 uns play rd n lat gar T (came, mis, lost, bel, fig, fi, u, z, F) r := CR.moved hC (fun i hi => hag6 i (by omega)) (fun i hi => hgg6 i (by omega))
            have hF : FRA ad g bs ad6 g24 := FRA.go hF (FRA.of (N := (bs + u)) (by omega) (by omega) (fun i hi => hag6 i (by omega)) (fun i hi => hgg6 i (by omega)))
            have hnw6 : g24 (bs + u) = .inl (k.2.1.1, 55, .inl (fun j => nI (cd j))) := hnw6
            show W p l e _ s m _ below meth c _ _ _ _ _ (F0 m _ _ (.ref (ad6 (bs + u)) :: _))
            refine m_stk (show ([.ref (ad6 (bs + u)), .ref (adP2 56), .ref aS] : List Value) = [.ref (ad6 (bs + u)), .ref (ad6 56), .ref aS] from by rw [hag6 56 (by omega)]) ?_
            have hcd32 := cd_lt x9 (by omega)
            refine lv_iload hx hb dL_act_465 (lv_at hl 2 rfl) ?_
            refine m_iald hx hb hE hI (bs + u) (by omega) (j := x9) hnw6 (by omega) (by omega) dL_act_467 ?_
            refine m_top (show (fun j => nI (cd j)) x9 = nI (cd x9) from rfl) ?_
            refine m_callSgq (As := [.ref (ad6 56), .int (nI (cd x9))]) (rest := [.ref aS]) (c1 := 4) (s1 := (n + 1) + (n + 1) + 55 + ((n + 1) + 1)) ⟨hx, hb, hml, hown, hts⟩ hE hI (c_X4_more k l ad6 (bs + u + 1) g24 _ 56 (n + 1) (fun j => nI ((va_up T n mk9) j)) (fun i => nI (va_up ((va_up T n mk9)) (n + 1) (cd x9) i)) (nI (cd x9)) (by omega) (by omega) (show g24 56 = .inl (k.2.1.1, (n + 1), .inl (fun j => nI ((va_up T n mk9) j))) from hS.2.2.2.2.2.2.2.1) (fun j hj => by rw [va_up_ne _ _ (by omega)]) (by rw [va_up_self])) (va_cwS 2 hts gL_act_X4_more rfl rfl rfl (by decide +kernel) ⟨Nat.le_of_ble_eq_true rfl, Nat.le_of_ble_eq_true rfl⟩) rfl hl.1 rfl (Nat.le_of_ble_eq_true rfl) dL_act_468 (by omega) (by omega) ⟨(by show _ ≤ 481; omega), (by show _ ≤ 8406; omega)⟩ (fun r9 ad7 N7 g9 H locs hp hE hI => ?_)
            obtain ⟨g25, hg25⟩ : ∃ zz, zz = g9 := ⟨_, rfl⟩
            rw [← hg25] at hp hI
            obtain ⟨hr7, hn7, hag7, hgg7, hnw7⟩ := hp
            subst hn7
            have hE : mE k ad7 (bs + u + 2) (mA ad N s.heap.size) s := hE
            have hI : mI k ad7 (bs + u + 2) g25 (mA ad N s.heap.size) s H locs := hI
            subst hr7
            replace hgg7 : ∀ i, i < bs + u + 1 → g25 i = g24 i := hgg7
            have hap : ad7 0 = ap := by rw [hag7 0 (by omega)]; exact hap
            have haS : ad7 50 = aS := by rw [hag7 50 (by omega)]; exact haS
            have hS : SR k ad7 bs (bs + u + 2) g25 uns play rd (n + 1) lat gar (va_up T n mk9) (came, mis, lost, bel, fig, u, ln, pg) := SR.grow hS (by omega) (fun i hi => hag7 i (by omega)) (fun i hi => hgg7 i (by omega))
            have hC : CR k ad7 g25 uns play rd n lat gar T (came, mis, lost, bel, fig, fi, u, z, F) r := CR.moved hC (fun i hi => hag7 i (by omega)) (fun i hi => hgg7 i (by omega))
            have hF : FRA ad g bs ad7 g25 := FRA.go hF (FRA.of (N := (bs + u + 1)) (by omega) (by omega) (fun i hi => hag7 i (by omega)) (fun i hi => hgg7 i (by omega)))
            have hnw6 : g25 (bs + u) = .inl (k.2.1.1, 55, .inl (fun j => nI (cd j))) := by rw [hgg7 _ (by omega)]; exact hnw6
            have hnw7 : g25 (bs + u + 1) = .inl (k.2.1.1, ((n + 1) + 1), .inl (fun i => nI (va_up ((va_up T n mk9)) (n + 1) (cd x9) i))) := hnw7
            show W p l e _ s m _ below meth c _ _ _ _ _ (F0 m _ _ (.ref (ad7 (bs + u + 1)) :: _))
            refine m_stk (show ([.ref (ad7 (bs + u + 1)), .ref aS] : List Value) = [.ref (ad7 (bs + u + 1)), .ref (ad7 50)] from by rw [haS]) ?_
            refine m_put (ci := 4) (C := RX4) (T := TX4) (N' := 14) (ty := .array .int) hx hb hts (by decide +kernel) tyX4 tyX4_ok nmX4 hown hE hI 50 (by omega) (show g25 50 = .inr (4, [.ref (ad7 51), .ref (ad7 52), .ref (ad7 53), .int (bI fig), .int (bI uns), .int (nI play), .ref (ad7 54), .ref (ad7 55), .ref (ad7 56), .int (nI rd), .int (nI came), .int mis, .int lost, .int bel]) from hS.2.1) rfl 8 (by decide) (hts (.fieldLink RL 19 "TapePrinterLaw$Sim" "tape" "[I") (by decide +kernel)) rfl (by decide +kernel) rfl rfl (Nat.le_of_ble_eq_true rfl) dL_act_471 (fun H locs hI => ?_)
            obtain ⟨adP3, gP, hE, hI, hFP, hGP, hS⟩ := SR.tape (bs + u + 1) ((n + 1) + 1) (va_up ((va_up T n mk9)) (n + 1) (cd x9)) hE hI hS (by omega) hnw7
            obtain ⟨g26, hg26⟩ : ∃ zz, zz = gP := ⟨_, rfl⟩
            rw [← hg26] at hI hFP hGP hS
            have hE : mE k adP3 (bs + u) (mA ad N s.heap.size) s := hE
            have hI : mI k adP3 (bs + u) g26 (mA ad N s.heap.size) s H locs := hI
            have hS : SR k adP3 bs (bs + u) g26 uns play rd ((n + 1) + 1) lat gar (va_up ((va_up T n mk9)) (n + 1) (cd x9)) (came, mis, lost, bel, fig, u, ln, pg) := hS
            have hF : FRA ad g bs adP3 g26 := FRA.go hF hFP
            have hC : CR k adP3 g26 uns play rd n lat gar T (came, mis, lost, bel, fig, fi, u, z, F) r := CR.moved hC (fun i hi => hFP.1 i (by omega)) hGP
            have hap : adP3 0 = ap := (hFP.1 0 (by omega)).trans hap
            have haS : adP3 50 = aS := (hFP.1 50 (by omega)).trans haS
            refine lv_aload_n hx hb dL_act_474 rfl (lv_at hl 5 rfl) ?_
            refine lv_iload hx hb dL_act_475 (lv_at hl 2 rfl) ?_
            refine m_stk (show ([.int (nI x9), .ref ap] : List Value) = [.int (nI x9), .ref (adP3 0)] from by rw [hap]) ?_
            refine m_callVn (As := [.int (nI x9)]) (rest := []) (c1 := 5) (s1 := (n + 1) + (n + 1) + 55 + ((n + 1) + 1) + 6) ⟨hx, hb, hml, hown, hts⟩ hE hI (c_X3_type k l hst adP3 (bs + u) g26 _ uns play rd n lat gar T came mis lost bel fig fi u z F r (nI x9) (by omega) hW hwf (by omega) hC) (fun E h => h.elim (fun h => absurd (inC_nI x9 (by omega) (by omega)) (by rw [h.2]; decide)) (fun h => absurd h.2.2 (by rw [tn_nI (j := x9) (by omega)]; omega))) (cwV 1 hts gL_act_X3_type rfl rfl rfl (by decide +kernel) ⟨Nat.le_of_ble_eq_true rfl, Nat.le_of_ble_eq_true rfl⟩) (i := 0) (by omega) hC.1 rfl rfl hl.1 rfl (Nat.le_of_ble_eq_true rfl) dL_act_477 (by omega) (by omega) ⟨(by show _ ≤ 481; omega), (by show _ ≤ 8406; omega)⟩ (fun r9 g9 H locs hp hI => ?_)
            obtain ⟨g27, hg27⟩ : ∃ zz, zz = g9 := ⟨_, rfl⟩
            rw [← hg27] at hp hI
            obtain ⟨_, _, hr9, hC9, hk9⟩ := hp
            rw [tn_nI (j := x9) (by omega)] at hr9
            rw [tn_nI (j := x9) (by omega)] at hC9
            subst hr9
            have hI : mI k adP3 (bs + u) g27 (mA ad N s.heap.size) s H locs := hI
            have hC : CR k adP3 g27 uns play rd (n + tyN uns T n x9) lat gar (tyT uns T n x9) (came, mis, lost, bel, fig, fi, u, z, F) r := hC9
            have hS : SR k adP3 bs (bs + u) g27 uns play rd ((n + 1) + 1) lat gar (va_up ((va_up T n mk9)) (n + 1) (cd x9)) (came, mis, lost, bel, fig, u, ln, pg) := SR.kept hS hk9
            have hF : FRA ad g bs adP3 g27 := FRA.go hF (FRA.cl hk9)
            refine lv_iload hx hb dL_act_480 (lv_at hl 0 rfl) ?_
            refine m_zeqB (tgt := 489) hx hb dL_act_482 (by decide) (fun c_482 => ?_) (fun c_482 => ?_)
            · exact absurd c_482 (by rw [c_429]; decide)
            · refine lv_iconst (v := nI 2) hx hb dL_act_485 (by decide) ?_
              refine lv_goto (tgt := 490) hx hb dL_act_486 (by decide) ?_
              refine m_cneN (tgt := 497) hx hb (by omega) (by omega) dL_act_490 (by decide) (fun c_490 => ?_) (fun c_490 => ?_)
              · exact absurd (by omega) c_490
              · refine lv_iconst (v := nI 1) hx hb dL_act_493 (by decide) ?_
                refine lv_goto (tgt := 498) hx hb dL_act_494 (by decide) ?_
                have eN : n + tyN uns T n x9 = (n + 1) + 1 := by rw [htn3]
                have eT : tyT uns T n x9 = va_up ((va_up T n mk9)) (n + 1) (cd x9) := by unfold tyT; rw [if_pos c_429, ← hmk9]
                rw [← eN, ← eT] at hS
                refine m_top (y := bI true) (by decide) ?_
                exact m_gzret hx hb hr hlocks hE hI (post := fun (r : Int32) (ad1 : Nat → Nat) (N1 : Nat) (g1 : Nat → va_E) => r = bI true ∧ FRA ad g bs ad1 g1 ∧ ST k ad1 bs N1 g1 (cm + 120)) (v := true) (⟨rfl, hF, uns, play, rd, (n + tyN uns T n x9), lat, gar, (tyT uns T n x9), ((came, mis, lost, bel, fig, fi, u, z, F)), ((came, mis, lost, bel, fig, u, ln, pg)), r, hC, hS, (CW.type hW (by omega) (by omega)), hwf, hwv, hYR, (show came ≤ cm + 120 by omega)⟩) (by omega) (by omega) dL_act_498
        · refine lv_iconst (v := nI 1) hx hb dL_act_425 (by decide) ?_
          refine m_top (y := bI true) (by decide) ?_
          exact m_gzret hx hb hr hlocks hE hI (post := fun (r : Int32) (ad1 : Nat → Nat) (N1 : Nat) (g1 : Nat → va_E) => r = bI true ∧ FRA ad g bs ad1 g1 ∧ ST k ad1 bs N1 g1 (cm + 120)) (v := true) (⟨rfl, hF, uns, play, rd, n, lat, gar, T, ((came, mis, lost, bel, fig, fi, u, z, F)), ((came, mis, lost, bel, fig, u, ln, pg)), r, hC, hS, hW, hwf, hwv, hYR, (show came ≤ cm + 120 by omega)⟩) (by omega) (by omega) dL_act_426
    · refine lv_iload_n hx hb dL_act_318 rfl (lv_at hl 1 rfl) ?_
      refine lv_bipush (v := nI 120) hx hb dL_act_319 (by decide) ?_
      refine m_cneN (tgt := 326) hx hb (by omega) (by omega) dL_act_321 (by decide) (fun c_321 => ?_) (fun c_321 => ?_)
      · refine lv_aload_n hx hb dL_act_326 rfl (lv_at hl 3 rfl) ?_
        refine lv_aload_n hx hb dL_act_327 rfl (lv_at hl 3 rfl) ?_
        refine m_stk (show ([.ref aS, .ref aS] : List Value) = [.ref (ad 50), .ref aS] from by rw [haS]) ?_
        refine m_get (ci := 4) (C := RX4) (T := TX4) (N' := 14) hx hb hts (by decide +kernel) hown hE hI 50 (by omega) (show g 50 = .inr (4, [.ref (ad 51), .ref (ad 52), .ref (ad 53), .int (bI fig), .int (bI uns), .int (nI play), .ref (ad 54), .ref (ad 55), .ref (ad 56), .int (nI rd), .int (nI came), .int mis, .int lost, .int bel]) from hS.2.1) rfl 8 (by decide) (hts (.fieldLink RL 19 "TapePrinterLaw$Sim" "tape" "[I") (by decide +kernel)) rfl dL_act_328 ?_
        refine lv_iload hx hb dL_act_331 (lv_at hl 0 rfl) ?_
        refine m_callSgq (As := [.ref (ad 56), .int (nI co4)]) (rest := [.ref aS]) (c1 := 1) (s1 := (n + 1)) ⟨hx, hb, hml, hown, hts⟩ hE hI (c_X4_more k l ad N g _ 56 n (fun j => nI (T j)) (fun i => nI (va_up T n co4 i)) (nI co4) (by omega) (by omega) (show g 56 = .inl (k.2.1.1, n, .inl (fun j => nI (T j))) from hS.2.2.2.2.2.2.2.1) (fun j hj => by rw [va_up_ne _ _ (by omega)]) (by rw [va_up_self])) (va_cwS 2 hts gL_act_X4_more rfl rfl rfl (by decide +kernel) ⟨Nat.le_of_ble_eq_true rfl, Nat.le_of_ble_eq_true rfl⟩) rfl hl.1 rfl (Nat.le_of_ble_eq_true rfl) dL_act_333 (by omega) (by omega) ⟨(by show _ ≤ 481; omega), (by show _ ≤ 8406; omega)⟩ (fun r9 ad8 N8 g9 H locs hp hE hI => ?_)
        obtain ⟨g28, hg28⟩ : ∃ zz, zz = g9 := ⟨_, rfl⟩
        rw [← hg28] at hp hI
        obtain ⟨hr8, hn8, hag8, hgg8, hnw8⟩ := hp
        subst hn8
        have hE : mE k ad8 (N + 1) (mA ad N s.heap.size) s := hE
        have hI : mI k ad8 (N + 1) g28 (mA ad N s.heap.size) s H locs := hI
        subst hr8
        replace hgg8 : ∀ i, i < N → g28 i = g i := hgg8
        have hap : ad8 0 = ap := by rw [hag8 0 (by omega)]; exact hap
        have haS : ad8 50 = aS := by rw [hag8 50 (by omega)]; exact haS
        have hS : SR k ad8 bs (N + 1) g28 uns play rd n lat gar T (came, mis, lost, bel, fig, u, ln, pg) := SR.grow hS (by omega) (fun i hi => hag8 i (by omega)) (fun i hi => hgg8 i (by omega))
        have hC : CR k ad8 g28 uns play rd n lat gar T (came, mis, lost, bel, fig, fi, u, z, F) r := CR.moved hC (fun i hi => hag8 i (by omega)) (fun i hi => hgg8 i (by omega))
        have hF : FRA ad g bs ad8 g28 := FRA.go hF (FRA.of (N := N) (by omega) (by omega) (fun i hi => hag8 i (by omega)) (fun i hi => hgg8 i (by omega)))
        have hnw8 : g28 N = .inl (k.2.1.1, (n + 1), .inl (fun i => nI (va_up T n co4 i))) := hnw8
        show W p l e _ s m _ below meth c _ _ _ _ _ (F0 m _ _ (.ref (ad8 N) :: _))
        refine m_stk (show ([.ref (ad8 N), .ref aS] : List Value) = [.ref (ad8 N), .ref (ad8 50)] from by rw [haS]) ?_
        refine m_put (ci := 4) (C := RX4) (T := TX4) (N' := 14) (ty := .array .int) hx hb hts (by decide +kernel) tyX4 tyX4_ok nmX4 hown hE hI 50 (by omega) (show g28 50 = .inr (4, [.ref (ad8 51), .ref (ad8 52), .ref (ad8 53), .int (bI fig), .int (bI uns), .int (nI play), .ref (ad8 54), .ref (ad8 55), .ref (ad8 56), .int (nI rd), .int (nI came), .int mis, .int lost, .int bel]) from hS.2.1) rfl 8 (by decide) (hts (.fieldLink RL 19 "TapePrinterLaw$Sim" "tape" "[I") (by decide +kernel)) rfl (by decide +kernel) rfl rfl (Nat.le_of_ble_eq_true rfl) dL_act_336 (fun H locs hI => ?_)
        obtain ⟨adP4, gP, hE, hI, hFP, hGP, hS⟩ := SR.tape N (n + 1) (va_up T n co4) hE hI hS (by omega) hnw8
        obtain ⟨g29, hg29⟩ : ∃ zz, zz = gP := ⟨_, rfl⟩
        rw [← hg29] at hI hFP hGP hS
        have hE : mE k adP4 (bs + u) (mA ad N s.heap.size) s := hE
        have hI : mI k adP4 (bs + u) g29 (mA ad N s.heap.size) s H locs := hI
        have hS : SR k adP4 bs (bs + u) g29 uns play rd (n + 1) lat gar (va_up T n co4) (came, mis, lost, bel, fig, u, ln, pg) := hS
        have hF : FRA ad g bs adP4 g29 := FRA.go hF hFP
        have hC : CR k adP4 g29 uns play rd n lat gar T (came, mis, lost, bel, fig, fi, u, z, F) r := CR.moved hC (fun i hi => hFP.1 i (by omega)) hGP
        have hap : adP4 0 = ap := (hFP.1 0 (by omega)).trans hap
        have haS : adP4 50 = aS := (hFP.1 50 (by omega)).trans haS
        refine lv_aload_n hx hb dL_act_339 rfl (lv_at hl 2 rfl) ?_
        refine lv_iload hx hb dL_act_340 (lv_at hl 0 rfl) ?_
        refine m_stk (show ([.int (nI co4), .ref ap] : List Value) = [.int (nI co4), .ref (adP4 0)] from by rw [hap]) ?_
        refine m_callVn (As := [.int (nI co4)]) (rest := []) (c1 := 2) (s1 := (n + 1) + 6) ⟨hx, hb, hml, hown, hts⟩ hE hI (c_X3_punch k l hst adP4 (bs + u) g29 _ uns play rd n lat gar T came mis lost bel fig fi u z F r (nI co4) (by omega) hW hwf (by omega) hC) (fun E h => h.elim (fun h => absurd (inN_nI (n := 32) (show co4 < 32 by omega) (by omega)) (by rw [h.2]; decide)) (fun h => absurd h.2.2 (by omega))) (cwV 1 hts gL_act_X3_punch rfl rfl rfl (by decide +kernel) ⟨Nat.le_of_ble_eq_true rfl, Nat.le_of_ble_eq_true rfl⟩) (i := 0) (by omega) hC.1 rfl rfl hl.1 rfl (Nat.le_of_ble_eq_true rfl) dL_act_342 (by omega) (by omega) ⟨(by show _ ≤ 481; omega), (by show _ ≤ 8406; omega)⟩ (fun r9 g9 H locs hp hI => ?_)
        obtain ⟨g30, hg30⟩ : ∃ zz, zz = g9 := ⟨_, rfl⟩
        rw [← hg30] at hp hI
        obtain ⟨_, _, hr9, hC9, hk9⟩ := hp
        rw [tn_nI (j := co4) (by omega)] at hC9
        subst hr9
        have hI : mI k adP4 (bs + u) g30 (mA ad N s.heap.size) s H locs := hI
        have hC : CR k adP4 g30 uns play rd (n + 1) lat gar (va_up T n co4) (came, mis, lost, bel, fig, fi, u, z, F) r := hC9
        have hS : SR k adP4 bs (bs + u) g30 uns play rd (n + 1) lat gar (va_up T n co4) (came, mis, lost, bel, fig, u, ln, pg) := SR.kept hS hk9
        have hF : FRA ad g bs adP4 g30 := FRA.go hF (FRA.cl hk9)
        refine lv_iload_n hx hb dL_act_345 rfl (lv_at hl 1 rfl) ?_
        refine lv_iconst (v := nI 1) hx hb dL_act_346 (by decide) ?_
        refine m_iaddN hx hb dL_act_347 ?_
        refine m_cneN (tgt := 355) hx hb (by omega) (by omega) dL_act_348 (by decide) (fun c_348 => ?_) (fun c_348 => ?_)
        · exact absurd rfl c_348
        · refine lv_iconst (v := nI 1) hx hb dL_act_351 (by decide) ?_
          refine lv_goto (tgt := 356) hx hb dL_act_352 (by decide) ?_
          refine m_top (y := bI true) (by decide) ?_
          exact m_gzret hx hb hr hlocks hE hI (post := fun (r : Int32) (ad1 : Nat → Nat) (N1 : Nat) (g1 : Nat → va_E) => r = bI true ∧ FRA ad g bs ad1 g1 ∧ ST k ad1 bs N1 g1 (cm + 120)) (v := true) (⟨rfl, hF, uns, play, rd, (n + 1), lat, gar, (va_up T n co4), ((came, mis, lost, bel, fig, fi, u, z, F)), ((came, mis, lost, bel, fig, u, ln, pg)), r, hC, hS, (CW.punch hW (by omega) (by omega)), hwf, hwv, hYR, (show came ≤ cm + 120 by omega)⟩) (by omega) (by omega) dL_act_356
      · refine lv_iconst (v := nI 1) hx hb dL_act_324 (by decide) ?_
        refine m_top (y := bI true) (by decide) ?_
        exact m_gzret hx hb hr hlocks hE hI (post := fun (r : Int32) (ad1 : Nat → Nat) (N1 : Nat) (g1 : Nat → va_E) => r = bI true ∧ FRA ad g bs ad1 g1 ∧ ST k ad1 bs N1 g1 (cm + 120)) (v := true) (⟨rfl, hF, uns, play, rd, n, lat, gar, T, ((came, mis, lost, bel, fig, fi, u, z, F)), ((came, mis, lost, bel, fig, u, ln, pg)), r, hC, hS, hW, hwf, hwv, hYR, (show came ≤ cm + 120 by omega)⟩) (by omega) (by omega) dL_act_325
  · refine lv_iload_n hx hb dL_act_269 rfl (lv_at hl 4 rfl) ?_
    refine lv_bipush (v := nI 7) hx hb dL_act_270 (by decide) ?_
    refine lv_ishr hx hb dL_act_272 ?_
    refine lv_iconst (v := nI 4) hx hb dL_act_273 (by decide) ?_
    refine m_callSi (As := [.int (p0 >>> ((nI 7) &&& 31)), .int (nI 4)]) (rest := []) ⟨hx, hb, hml, hown, hts⟩ hE hI (c_L_below k l ad N g _ (p0 >>> ((nI 7) &&& 31)) 4 (by omega) (by omega)) (va_cwS 2 hts gL_act_L_below rfl rfl rfl (by decide +kernel) ⟨Nat.le_of_ble_eq_true rfl, Nat.le_of_ble_eq_true rfl⟩) rfl hl.1 rfl (Nat.le_of_ble_eq_true rfl) dL_act_274 ⟨(by show _ ≤ 481; omega), (by show _ ≤ 8406; omega)⟩ (m_deti (fun H locs hI => ?_))
    have hbw_19 := blw_lt (v := p0 >>> ((nI 7) &&& 31)) (b := 4) (by omega)
    have hbp := blw_lt (v := p0) (b := 2) (by omega)
    obtain ⟨i9, hi9⟩ : ∃ zz, zz = if blw (p0 >>> ((nI 7) &&& 31)) 4 = 0 then 27 + 4 * blw p0 2 else co4 := ⟨_, rfl⟩
    have hbi9 : i9 < 32 := by rw [hi9]; split <;> omega
    refine m_via hI 295 ([.int (nI i9)]) (fun K => ?_) (fun H locs hI => ?_)
    · refine m_zneN (tgt := 293) hx hb (by omega) dL_act_277 (by decide) (fun c_277 => ?_) (fun c_277 => ?_)
      · refine lv_iload hx hb dL_act_293 (lv_at hl 0 rfl) ?_
        refine m_top (show nI co4 = nI i9 from by rw [hi9, if_neg c_277]) ?_
        exact K H locs hI
      · refine lv_bipush (v := nI 27) hx hb dL_act_280 (by decide) ?_
        refine lv_iconst (v := nI 4) hx hb dL_act_282 (by decide) ?_
        refine lv_iload_n hx hb dL_act_283 rfl (lv_at hl 4 rfl) ?_
        refine lv_iconst (v := nI 2) hx hb dL_act_284 (by decide) ?_
        refine m_callSi (As := [.int p0, .int (nI 2)]) (rest := [.int (nI 4), .int (nI 27)]) ⟨hx, hb, hml, hown, hts⟩ hE hI (c_L_below k l ad N g _ p0 2 (by omega) (by omega)) (va_cwS 2 hts gL_act_L_below rfl rfl rfl (by decide +kernel) ⟨Nat.le_of_ble_eq_true rfl, Nat.le_of_ble_eq_true rfl⟩) rfl hl.1 rfl (Nat.le_of_ble_eq_true rfl) dL_act_285 ⟨(by show _ ≤ 481; omega), (by show _ ≤ 8406; omega)⟩ (m_deti (fun H locs hI => ?_))
        have hbw_20 := blw_lt (v := p0) (b := 2) (by omega)
        refine m_imulN hx hb dL_act_288 ?_
        refine m_iaddN hx hb dL_act_289 ?_
        refine lv_goto (tgt := 295) hx hb dL_act_290 (by decide) ?_
        refine m_top (show nI (27 + (4 * (blw p0 2))) = nI i9 from by rw [hi9, if_pos c_277]) ?_
        exact K H locs hI
    refine lv_istore (lv' := [(9, .int (nI i9)), (4, .int (nI co4)), (3, .int (nI n)), (0, .ref ap), (1, .ref aS), (2, .int p0)]) hx hb dL_act_295 hl (by decide) rfl (fun ls hl => ?_)
    refine lv_aload_n hx hb dL_act_297 rfl (lv_at hl 3 rfl) ?_
    refine lv_iload hx hb dL_act_298 (lv_at hl 0 rfl) ?_
    refine m_stk (show ([.int (nI i9), .ref ap] : List Value) = [.int (nI i9), .ref (ad 0)] from by rw [hap]) ?_
    refine m_callVn (As := [.int (nI i9)]) (rest := []) (c1 := 1) (s1 := 6) ⟨hx, hb, hml, hown, hts⟩ hE hI (c_X3_receive k l hst ad N g _ uns play rd n lat gar T came mis lost bel fig fi u z F r (nI i9) (by omega) hW hwf (by omega) hC) (fun E h => absurd (inN_nI (n := 32) (show i9 < 32 by omega) (by omega)) (by rw [h.2]; decide)) (cwV 1 hts gL_act_X3_receive rfl rfl rfl (by decide +kernel) ⟨Nat.le_of_ble_eq_true rfl, Nat.le_of_ble_eq_true rfl⟩) (i := 0) (by omega) hC.1 rfl rfl hl.1 rfl (Nat.le_of_ble_eq_true rfl) dL_act_300 (by omega) (by omega) ⟨(by show _ ≤ 481; omega), (by show _ ≤ 8406; omega)⟩ (fun r9 g9 H locs hp hI => ?_)
    obtain ⟨g31, hg31⟩ : ∃ zz, zz = g9 := ⟨_, rfl⟩
    rw [← hg31] at hp hI
    obtain ⟨_, hr9, hC9, hk9⟩ := hp
    rw [tn_nI (j := i9) (by omega)] at hr9
    rw [tn_nI (j := i9) (by omega)] at hC9
    subst hr9
    have hI : mI k ad N g31 (mA ad N s.heap.size) s H locs := hI
    have hC : CR k ad g31 uns play rd n lat gar T (yIn cNl cFull cAdd uns play lat gar i9 (came, mis, lost, bel, fig, fi, u, z, F)) r := hC9
    have hS : SR k ad bs N g31 uns play rd n lat gar T (came, mis, lost, bel, fig, u, ln, pg) := SR.kept hS hk9
    have hF : FRA ad g bs ad g31 := FRA.go hF (FRA.cl hk9)
    have hrd32 : rdY play lat gar came i9 < 32 := rdF_lt (by omega) (hgar9 _ (Nat.mod_lt _ (by omega)))
    refine lv_aload_n hx hb dL_act_303 rfl (lv_at hl 4 rfl) ?_
    refine lv_iload hx hb dL_act_304 (lv_at hl 0 rfl) ?_
    refine m_stk (show ([.int (nI i9), .ref aS, .int (nI (rdY play lat gar came i9))] : List Value) = [.int (nI i9), .ref (ad 50), .int (nI (rdY play lat gar came i9))] from by rw [haS]) ?_
    refine m_callVgi (As := [.int (nI i9)]) (rest := [.int (nI (rdY play lat gar came i9))]) (c1 := 5) (s1 := 76) ⟨hx, hb, hml, hown, hts⟩ hE hI (c_X4_come k l ad N g31 _ uns play rd n lat gar T came mis lost bel fig u ln pg bs i9 (hW.1) (hW.2.2.2.2.2) (hW.2.2.2.1) (by omega) (by omega) hwv hS) (cwV 1 hts gL_act_X4_come rfl rfl rfl (by decide +kernel) ⟨Nat.le_of_ble_eq_true rfl, Nat.le_of_ble_eq_true rfl⟩) (i := 50) (by omega) (show g31 50 = .inr (4, [.ref (ad 51), .ref (ad 52), .ref (ad 53), .int (bI fig), .int (bI uns), .int (nI play), .ref (ad 54), .ref (ad 55), .ref (ad 56), .int (nI rd), .int (nI came), .int mis, .int lost, .int bel]) from hS.2.1) rfl rfl hl.1 rfl (Nat.le_of_ble_eq_true rfl) dL_act_306 (by omega) (by omega) ⟨(by show _ ≤ 481; omega), (by show _ ≤ 8406; omega)⟩ (fun r9 ad9 N9 g9 H locs hp hE hI => ?_)
    obtain ⟨g32, hg32⟩ : ∃ zz, zz = g9 := ⟨_, rfl⟩
    rw [← hg32] at hp hI
    obtain ⟨hr9, hFC, hGC, hS9⟩ := hp
    subst hr9
    have hE : mE k ad9 N9 (mA ad N s.heap.size) s := hE
    have hI : mI k ad9 N9 g32 (mA ad N s.heap.size) s H locs := hI
    have hap : ad9 0 = ap := (hFC.1 0 (by omega)).trans hap
    have haS : ad9 50 = aS := (hFC.1 50 (by omega)).trans haS
    have hF : FRA ad g bs ad9 g32 := FRA.go hF hFC
    have hC : CR k ad9 g32 uns play rd n lat gar T (yIn cNl cFull cAdd uns play lat gar i9 (came, mis, lost, bel, fig, fi, u, z, F)) r := CR.moved hC (fun i hi => hFC.1 i (by omega)) hGC
    have hS := hS9
    refine m_cneN (tgt := 316) hx hb (by omega) (by omega) dL_act_309 (by decide) (fun c_309 => ?_) (fun c_309 => ?_)
    · exact absurd rfl c_309
    · refine lv_iconst (v := nI 1) hx hb dL_act_312 (by decide) ?_
      refine lv_goto (tgt := 317) hx hb dL_act_313 (by decide) ?_
      refine m_top (y := bI true) (by decide) ?_
      exact m_gzret hx hb hr hlocks hE hI (post := fun (r : Int32) (ad1 : Nat → Nat) (N1 : Nat) (g1 : Nat → va_E) => r = bI true ∧ FRA ad g bs ad1 g1 ∧ ST k ad1 bs N1 g1 (cm + 120)) (v := true) (⟨rfl, hF, uns, play, rd, n, lat, gar, T, (yIn cNl cFull cAdd uns play lat gar i9 (came, mis, lost, bel, fig, fi, u, z, F)), (yIn sNl sFull sAdd uns play lat gar i9 (came, mis, lost, bel, fig, u, ln, pg)), r, hC, hS, hW, (cWf_in (y := (came, mis, lost, bel, fig, fi, u, z, F)) hwf), (sWf_in (y := (came, mis, lost, bel, fig, u, ln, pg)) hwv), (YRS_in uns play lat gar i9 (y := (came, mis, lost, bel, fig, fi, u, z, F)) (v := (came, mis, lost, bel, fig, u, ln, pg)) hwf hwv hYR), (show came + 1 ≤ cm + 120 by omega)⟩) (by omega) (by omega) dL_act_317
