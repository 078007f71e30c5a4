/-! The two pages side by side. -/
abbrev PgR (p : PC) (q : PM) : Prop := q.1 = p.2.1 ∧ (∀ l, l < p.2.1 → p.2.2.1 (slt p.1 l) = q.2.1 l) ∧ ∀ l, l < p.2.1 → ∀ i, i < q.2.1 l → p.2.2.2 (slt p.1 l) i = q.2.2 (40 * l + i)
theorem slt_ne {fi a b : Nat} (ha : a < 20) (hb : b < 20) (h : a ≠ b) : slt fi a ≠ slt fi b := by
  unfold slt
  omega
theorem slt_slt {fi l : Nat} : slt (slt fi 1) l = slt fi (l + 1) := by
  unfold slt
  omega
theorem slt_20 {fi : Nat} (h : fi < 20) : slt fi 20 = fi := by
  unfold slt
  omega
theorem slt_fi {fi l : Nat} (h : fi < 20) (h1 : l < 19) : slt fi (l + 1) ≠ fi := by
  unfold slt
  omega
theorem up_at {α : Type} (f : Nat → α) (k j : Nat) (v : α) : va_up f k v j = if j = k then v else f j := rfl
theorem PgR_nl {fi u : Nat} {z : Nat → Nat} {F : Nat → Nat → Nat} {u' : Nat} {ln pg : Nat → Nat} (hc : cWf (fi, u, z, F)) (hm : mWf (u', ln, pg)) (h : PgR (fi, u, z, F) (u', ln, pg)) : PgR (cNl (fi, u, z, F)) (mNl (u', ln, pg)) := by
  obtain ⟨h1, h2, h3⟩ := h
  have h1 : u' = u := h1
  have h2 : ∀ l, l < u → z (slt fi l) = ln l := h2
  have h3 : ∀ l, l < u → ∀ i, i < ln l → F (slt fi l) i = pg (40 * l + i) := h3
  subst h1
  have hf : fi < 20 := hc.1
  have hu : u' ≤ 20 := hm.2.1
  have hln : ∀ j, j < 20 → ln j ≤ 40 := hm.2.2
  by_cases h20 : u' < 20
  · have e1 : cNl (fi, u', z, F) = (fi, u' + 1, va_up z (slt fi u') 0, F) := by unfold cNl; exact if_pos h20
    have e2 : mNl (u', ln, pg) = (u' + 1, va_up ln u' 0, pg) := by unfold mNl; exact if_neg (by show ¬ u' = 20; omega)
    rw [e1, e2]
    refine ⟨rfl, fun l hl => ?_, fun l hl i hi => ?_⟩
    · have hl : l < u' + 1 := hl
      show va_up z (slt fi u') 0 (slt fi l) = va_up ln u' 0 l
      by_cases hlu : l = u'
      · subst hlu; rw [va_up_self, va_up_self]
      · rw [va_up_ne _ _ (slt_ne (by omega) h20 hlu), va_up_ne _ _ hlu]; exact h2 l (by omega)
    · have hl : l < u' + 1 := hl
      have hi : i < va_up ln u' 0 l := hi
      by_cases hlu : l = u'
      · subst hlu; rw [va_up_self] at hi; omega
      · rw [va_up_ne _ _ hlu] at hi
        exact h3 l (by omega) i hi
  · have hu20 : u' = 20 := by omega
    subst hu20
    have e1 : cNl (fi, 20, z, F) = (slt fi 1, 20, va_up z fi 0, F) := by unfold cNl; exact if_neg (show ¬ 20 < 20 by decide)
    have e2 : mNl (20, ln, pg) = (20, va_up (va_cpy ln ln 1 0 19) 19 0, va_cpy pg pg 40 0 760) := by unfold mNl; exact if_pos rfl
    rw [e1, e2]
    refine ⟨rfl, fun l hl => ?_, fun l hl i hi => ?_⟩
    · have hl : l < 20 := hl
      show va_up z fi 0 (slt (slt fi 1) l) = va_up (va_cpy ln ln 1 0 19) 19 0 l
      rw [slt_slt]
      by_cases hl19 : l = 19
      · subst hl19; rw [slt_20 hf, va_up_self, va_up_self]
      · rw [va_up_ne _ _ (slt_fi hf (by omega)), va_up_ne _ _ hl19, h2 (l + 1) (by omega)]
        unfold va_cpy
        rw [if_pos (by omega)]
        congr 1
        omega
    · have hl : l < 20 := hl
      have hi : i < va_up (va_cpy ln ln 1 0 19) 19 0 l := hi
      show F (slt (slt fi 1) l) i = va_cpy pg pg 40 0 760 (40 * l + i)
      rw [slt_slt]
      by_cases hl19 : l = 19
      · subst hl19; rw [va_up_self] at hi; omega
      · have e3 : va_up (va_cpy ln ln 1 0 19) 19 0 l = ln (l + 1) := by
          rw [va_up_ne _ _ hl19]
          unfold va_cpy
          rw [if_pos (by omega)]
          congr 1
          omega
        rw [e3] at hi
        have h40 := hln (l + 1) (by omega)
        rw [h3 (l + 1) (by omega) i hi]
        unfold va_cpy
        rw [if_pos (by omega)]
        congr 1
        omega
theorem PgR_full {fi u : Nat} {z : Nat → Nat} {F : Nat → Nat → Nat} {u' : Nat} {ln pg : Nat → Nat} (hc : cWf (fi, u, z, F)) (h : PgR (fi, u, z, F) (u', ln, pg)) : cFull (fi, u, z, F) = mFull (u', ln, pg) := by
  obtain ⟨h1, h2, h3⟩ := h
  have h1 : u' = u := h1
  have h0 : 0 < u := hc.2.1
  have h2 : ∀ l, l < u → z (slt fi l) = ln l := h2
  subst h1
  show decide (z (slt fi (u' - 1)) = 40) = decide (ln (u' - 1) = 40)
  rw [h2 (u' - 1) (by omega)]
theorem PgR_add {fi u : Nat} {z : Nat → Nat} {F : Nat → Nat → Nat} {u' : Nat} {ln pg : Nat → Nat} (ch : Nat) (hc : cWf (fi, u, z, F)) (hm : mWf (u', ln, pg)) (h : PgR (fi, u, z, F) (u', ln, pg)) : PgR (cAdd (fi, u, z, F) ch) (mAdd (u', ln, pg) ch) := by
  obtain ⟨h1, h2, h3⟩ := h
  have h1 : u' = u := h1
  have h0 : 0 < u := hc.2.1
  have h2 : ∀ l, l < u → z (slt fi l) = ln l := h2
  have h3 : ∀ l, l < u → ∀ i, i < ln l → F (slt fi l) i = pg (40 * l + i) := h3
  subst h1
  have hu : u' ≤ 20 := hm.2.1
  have hln : ∀ j, j < 20 → ln j ≤ 40 := hm.2.2
  have e0 := h2 (u' - 1) (by omega)
  refine ⟨rfl, fun l hl => ?_, fun l hl i hi => ?_⟩
  · have hl : l < u' := hl
    show va_up z (slt fi (u' - 1)) (z (slt fi (u' - 1)) + 1) (slt fi l) = va_up ln (u' - 1) (ln (u' - 1) + 1) l
    by_cases hlu : l = u' - 1
    · subst hlu; rw [va_up_self, va_up_self, e0]
    · rw [va_up_ne _ _ (slt_ne (by omega) (by omega) hlu), va_up_ne _ _ hlu]; exact h2 l hl
  · have hl : l < u' := hl
    have hi : i < va_up ln (u' - 1) (ln (u' - 1) + 1) l := hi
    show va_up F (slt fi (u' - 1)) (va_up (F (slt fi (u' - 1))) (z (slt fi (u' - 1))) ch) (slt fi l) i = va_up pg (40 * (u' - 1) + ln (u' - 1)) ch (40 * l + i)
    by_cases hlu : l = u' - 1
    · subst hlu
      rw [va_up_self] at hi
      rw [va_up_self, e0]
      by_cases hii : i = ln (u' - 1)
      · subst hii; rw [va_up_self, va_up_self]
      · rw [va_up_ne _ _ hii, va_up_ne _ _ (by omega)]; exact h3 _ hl i (by omega)
    · rw [va_up_ne _ _ hlu] at hi
      have h40 := hln l (by omega)
      rw [va_up_ne _ _ (slt_ne (by omega) (by omega) hlu), va_up_ne _ _ (by omega)]
      exact h3 l hl i hi
theorem PgR_ob {p : PC} {q : PM} (ch : Nat) (hc : cWf p) (hm : mWf q) (h : PgR p q) : PgR (pOb cNl cFull cAdd ch p) (pOb mNl mFull mAdd ch q) := by
  obtain ⟨fi, u, z, F⟩ := p
  obtain ⟨u', ln, pg⟩ := q
  unfold pOb
  by_cases h54 : ch = 54
  · rw [if_pos h54, if_pos h54]; exact PgR_nl hc hm h
  · rw [if_neg h54, if_neg h54]
    by_cases h0 : ch = 0
    · rw [if_pos h0, if_pos h0]; exact h
    · rw [if_neg h0, if_neg h0, PgR_full hc h]
      by_cases hf : mFull (u', ln, pg) = true
      · rw [if_pos hf, if_pos hf]; exact h
      · rw [if_neg hf, if_neg hf]; exact PgR_add ch hc hm h
theorem PgR_lost {p : PC} {q : PM} (ch : Nat) (lost : Int32) (hc : cWf p) (h : PgR p q) : lOb cFull ch p lost = lOb mFull ch q lost := by
  obtain ⟨fi, u, z, F⟩ := p
  obtain ⟨u', ln, pg⟩ := q
  unfold lOb
  rw [PgR_full hc h]
/-- the two machines side by side -/
abbrev YR (y : YT PC) (v : YT PM) : Prop := y.1 = v.1 ∧ y.2.1 = v.2.1 ∧ y.2.2.1 = v.2.2.1 ∧ y.2.2.2.1 = v.2.2.2.1 ∧ y.2.2.2.2.1 = v.2.2.2.2.1 ∧ PgR y.2.2.2.2.2 v.2.2.2.2.2
theorem YR_ob {y : YT PC} {v : YT PM} (uns : Bool) (co : Nat) (hc : cWf y.2.2.2.2.2) (hm : mWf v.2.2.2.2.2) (h : YR y v) : YR (yOb cNl cFull cAdd uns co y) (yOb mNl mFull mAdd uns co v) := by
  obtain ⟨came, mis, lost, bel, fig, p⟩ := y
  obtain ⟨came', mis', lost', bel', fig', q⟩ := v
  obtain ⟨h1, h2, h3, h4, h5, h6⟩ := h
  have h1 : came = came' := h1
  have h2 : mis = mis' := h2
  have h3 : lost = lost' := h3
  have h4 : bel = bel' := h4
  have h5 : fig = fig' := h5
  subst h1 h2 h3 h4 h5
  exact ⟨rfl, rfl, PgR_lost _ _ hc h6, rfl, rfl, PgR_ob _ hc hm h6⟩
theorem YR_in {y : YT PC} {v : YT PM} (uns : Bool) (play : Nat) (lat : Nat → Int32) (gar : Nat → Nat) (co : Nat) (hc : cWf y.2.2.2.2.2) (hm : mWf v.2.2.2.2.2) (h : YR y v) : YR (yIn cNl cFull cAdd uns play lat gar co y) (yIn mNl mFull mAdd uns play lat gar co v) := by
  obtain ⟨came, mis, lost, bel, fig, p⟩ := y
  obtain ⟨came', mis', lost', bel', fig', q⟩ := v
  obtain ⟨h1, h2, h3, h4, h5, h6⟩ := h
  have h1 : came = came' := h1
  have h2 : mis = mis' := h2
  have h3 : lost = lost' := h3
  have h4 : bel = bel' := h4
  have h5 : fig = fig' := h5
  subst h1 h2 h3 h4 h5
  exact YR_ob (y := (came + 1, (if rdY play lat gar came co = co then mis else mis + 1), lost, bel, fig, p)) (v := (came + 1, (if rdY play lat gar came co = co then mis else mis + 1), lost, bel, fig, q)) uns _ hc hm ⟨rfl, rfl, rfl, rfl, rfl, h6⟩
theorem YR_run {y : YT PC} {v : YT PM} (uns : Bool) (play : Nat) (lat : Nat → Int32) (gar T : Nat → Nat) (rd : Nat) (hc : cWf y.2.2.2.2.2) (hm : mWf v.2.2.2.2.2) (h : YR y v) (m : Nat) : YR (yRun cNl cFull cAdd uns play lat gar T rd y m) (yRun mNl mFull mAdd uns play lat gar T rd v m) := by
  induction m with
  | zero => exact h
  | succ m ih => exact YR_in uns play lat gar _ (cWf_run hc m) (mWf_run hm m) ih
theorem PgR_sum {fi u : Nat} {z : Nat → Nat} {F : Nat → Nat → Nat} {u' : Nat} {ln pg : Nat → Nat} (h : PgR (fi, u, z, F) (u', ln, pg)) (m : Nat) (hm : m ≤ u) : sumz z fi m = sumL ln m := by
  have h2 : ∀ l, l < u → z (slt fi l) = ln l := h.2.1
  induction m with
  | zero => rfl
  | succ m ih =>
    show sumz z fi m + z (slt fi m) = sumL ln m + ln m
    rw [ih (by omega), h2 m (by omega)]
theorem dg1_eq {f h : Nat → Int32} {d : Int64} (m : Nat) (e : ∀ i, i < m → f i = h i) : dg1 f d m = dg1 h d m := by
  induction m with
  | zero => rfl
  | succ m ih =>
    show mixI (dg1 f d m) (f m) = mixI (dg1 h d m) (h m)
    rw [ih (fun i hi => e i (by omega)), e m (by omega)]
theorem PgR_dg {fi u : Nat} {z : Nat → Nat} {F : Nat → Nat → Nat} {u' : Nat} {ln pg : Nat → Nat} (h : PgR (fi, u, z, F) (u', ln, pg)) (d : Int64) (m : Nat) (hm : m ≤ u) : dg3 (fun l1 => z (slt fi l1)) (fun l1 i1 => nI (F (slt fi l1) i1)) d m = dg3 ln (fun l1 i1 => nI (pg (40 * l1 + i1))) d m := by
  have h2 : ∀ l, l < u → z (slt fi l) = ln l := h.2.1
  have h3 : ∀ l, l < u → ∀ i, i < ln l → F (slt fi l) i = pg (40 * l + i) := h.2.2
  induction m with
  | zero => rfl
  | succ m ih =>
    show dg1 (fun i1 => nI (F (slt fi m) i1)) (mixI (dg3 (fun l1 => z (slt fi l1)) (fun l1 i1 => nI (F (slt fi l1) i1)) d m) (nI (z (slt fi m)))) (z (slt fi m)) = dg1 (fun i1 => nI (pg (40 * m + i1))) (mixI (dg3 ln (fun l1 i1 => nI (pg (40 * l1 + i1))) d m) (nI (ln m))) (ln m)
    rw [ih (by omega), h2 m (by omega)]
    exact dg1_eq (ln m) (fun i hi => by show nI (F (slt fi m) i) = nI (pg (40 * m + i)); rw [h3 m (by omega) i hi])
theorem CW.play {play rd n p1 : Nat} {lat : Nat → Int32} {gar T : Nat → Nat} (h : CW play rd n lat gar T) (hp : p1 ≤ 9) : CW p1 rd n lat gar T := ⟨hp, h.2⟩
theorem CW.line {play rd n j q : Nat} {lat : Nat → Int32} {gar T : Nat → Nat} {x : Int32} (h : CW play rd n lat gar T) (hq : q < 32) (hx : -9 ≤ x ∧ x ≤ 9) : CW play rd n (upd lat j x) (va_up gar j q) T :=
  ⟨h.1, h.2.1, h.2.2.1, fun i hi => by unfold va_up; split <;> first | exact hq | exact h.2.2.2.1 i hi, h.2.2.2.2.1, fun i => by unfold upd; split <;> first | exact hx | exact h.2.2.2.2.2 i⟩
theorem CW.rub {play rd n j q : Nat} {lat : Nat → Int32} {gar T : Nat → Nat} (h : CW play rd n lat gar T) (hq : q < 32) : CW play rd n lat gar (va_up T j q) :=
  ⟨h.1, h.2.1, h.2.2.1, h.2.2.2.1, fun i => by unfold va_up; split <;> first | exact hq | exact h.2.2.2.2.1 i, h.2.2.2.2.2⟩
theorem CW.type {play rd n x : Nat} {lat : Nat → Int32} {gar T : Nat → Nat} {uns : Bool} (h : CW play rd n lat gar T) (hx : x < 55) (hn : n + tyN uns T n x ≤ 120) : CW play rd (n + tyN uns T n x) lat gar (tyT uns T n x) := by
  unfold tyN tyT
  unfold tyN at hn
  cases hs : tyS uns T n x with
  | false =>
    rw [hs] at hn
    have hn : n + 1 ≤ 120 := hn
    exact CW.punch h (by omega) (cd_lt x hx)
  | true =>
    rw [hs] at hn
    have hn : n + 2 ≤ 120 := hn
    exact CW.punch (CW.punch h (by omega) (by split <;> omega)) (by omega) (cd_lt x hx)
