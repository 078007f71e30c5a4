/-! The law's turn: what its numbers are. -/
theorem m_viaC {p : Program} {l : Launch} {e : Env} {R : Room} {s : State} {m : MethodId} {args : Array Value} {below : List Frame} {meth : Method} {c : Code} {H : Heap} {locs : List Loc} {cells slots : Nat} {Q : State → Prop} {pc : Nat} {ls : Array Slot} {k : mC} {ad : Nat → Nat} {N : Nat} {g : Nat → va_E} {A : Nat → Prop} (_hI : mI k ad N g A s H locs) (c1 s1 pc2 : Nat) (st2 : List Value) {st : List Value}
    (k0 : (∀ (H : Heap) (locs : List Loc), mI k ad N g A s H locs → W p l e R s m args below meth c H locs c1 s1 Q (F0 m pc2 ls st2)) → W p l e R s m args below meth c H locs cells slots Q (F0 m pc ls st)) (k1 : ∀ (H : Heap) (locs : List Loc), mI k ad N g A s H locs → W p l e R s m args below meth c H locs c1 s1 Q (F0 m pc2 ls st2)) : W p l e R s m args below meth c H locs cells slots Q (F0 m pc ls st) := k0 k1
theorem mis_if (q : Prop) [Decidable q] (x : Int32) : (if q then x else x + 1) = x + nI (if q then 0 else 1) := by
  split
  · rw [nI_0, Int32.add_zero]
  · rfl
theorem mis_if2 (q : Prop) [Decidable q] (x : Int32) : (if q then x + 1 else x) = x + nI (if q then 1 else 0) := by
  split
  · rfl
  · rw [nI_0, Int32.add_zero]
theorem add1_nI (x : Int32) (m : Nat) : x + nI m + 1 = x + nI (m + 1) := by
  rw [Int32.add_assoc, ← nI_add]
  rfl
/-- as many go wrong as was told -/
theorem yRun_mis {P : Type} {nl : P → P} {full : P → Bool} {add : P → Nat → P} {uns : Bool} {play : Nat} {lat : Nat → Int32} {gar T : Nat → Nat} {rd : Nat} {y : YT P} (m : Nat) : (yRun nl full add uns play lat gar T rd y m).2.1 = y.2.1 + nI (wrN play lat gar T rd y.1 m) := by
  induction m with
  | zero =>
    show y.2.1 = y.2.1 + nI 0
    rw [nI_0, Int32.add_zero]
  | succ m ih =>
    show (if rdY play lat gar (yRun nl full add uns play lat gar T rd y m).1 (T (rd + m)) = T (rd + m) then (yRun nl full add uns play lat gar T rd y m).2.1 else (yRun nl full add uns play lat gar T rd y m).2.1 + 1) = y.2.1 + nI (if rdY play lat gar (y.1 + m) (T (rd + m)) = T (rd + m) then wrN play lat gar T rd y.1 m else wrN play lat gar T rd y.1 m + 1)
    rw [yRun_1, ih]
    split
    · rfl
    · exact add1_nI _ _
theorem chF_31 : ∀ b : Bool, chF 31 b = 0 := by decide
theorem chF_lo : ∀ c, c < 32 → chF c false ≤ 26 ∨ 53 ≤ chF c false := by decide +kernel
theorem fa_31 {uns : Bool} {T : Nat → Nat} {j : Nat} (h : T j = 31) : fa uns T (j + 1) = false := by
  show fb uns (T j) (fa uns T j) = false
  rw [h]
  cases uns <;> cases fa _ T j <;> rfl
theorem sumz_up {z : Nat → Nat} {fi q v : Nat} (m : Nat) (h : ∀ l, l < m → slt fi l ≠ q) : sumz (va_up z q v) fi m = sumz z fi m := by
  induction m with
  | zero => rfl
  | succ m ih =>
    show sumz (va_up z q v) fi m + va_up z q v (slt fi m) = sumz z fi m + z (slt fi m)
    rw [ih (fun l hl => h l (by omega)), va_up_ne _ _ (h m (by omega))]
theorem sumz_sh {z : Nat → Nat} {fi : Nat} (m : Nat) : sumz z (slt fi 1) m + z (slt fi 0) = sumz z fi (m + 1) := by
  induction m with
  | zero =>
    show 0 + z (slt fi 0) = 0 + z (slt fi 0)
    rfl
  | succ m ih =>
    have e1 : sumz z (slt fi 1) (m + 1) = sumz z (slt fi 1) m + z (slt (slt fi 1) m) := rfl
    have e2 : sumz z fi (m + 1 + 1) = sumz z fi (m + 1) + z (slt fi (m + 1)) := rfl
    rw [e1, e2, slt_slt]
    omega
/-- what a printed character does to the numbers of the page -/
theorem page_facts {fi u : Nat} {z : Nat → Nat} {F : Nat → Nat → Nat} {ch fi1 u1 : Nat} {z1 : Nat → Nat} {F1 : Nat → Nat → Nat} {nw sb : Bool} (hc : cWf (fi, u, z, F)) (hz : ∀ l, l < u → z (slt fi l) ≤ 40) (h : (fi1, u1, z1, F1) = pOb cNl cFull cAdd ch (fi, u, z, F)) (hnw : nw = decide (ch = 54)) (hsb : sb = (decide (0 < ch) && !nw && decide (z (slt fi (u - 1)) < 40))) :
    u1 = (if nw = true then min 20 (u + 1) else u) ∧ z1 (slt fi1 (u1 - 1)) = (if nw = true then 0 else if sb = true then z (slt fi (u - 1)) + 1 else z (slt fi (u - 1))) ∧
    sumz z1 fi1 u1 + (if nw = true ∧ u = 20 then z (slt fi 0) else 0) = sumz z fi u + (if sb = true then 1 else 0) ∧ (sb = true → u1 = u ∧ fi1 = fi ∧ F1 (slt fi (u - 1)) (z (slt fi (u - 1))) = ch) ∧ 0 < u1 := by
  obtain ⟨hf, h0, h20⟩ := hc
  have hf : fi < 20 := hf
  have h0 : 0 < u := h0
  have h20 : u ≤ 20 := h20
  have hlast := hz (u - 1) (by omega)
  have same : (fi1, u1, z1, F1) = (fi, u, z, F) → nw = false → sb = false → u1 = (if nw = true then min 20 (u + 1) else u) ∧ z1 (slt fi1 (u1 - 1)) = (if nw = true then 0 else if sb = true then z (slt fi (u - 1)) + 1 else z (slt fi (u - 1))) ∧
    sumz z1 fi1 u1 + (if nw = true ∧ u = 20 then z (slt fi 0) else 0) = sumz z fi u + (if sb = true then 1 else 0) ∧ (sb = true → u1 = u ∧ fi1 = fi ∧ F1 (slt fi (u - 1)) (z (slt fi (u - 1))) = ch) ∧ 0 < u1 := by
    intro he h1 h2
    cases he
    subst h1 h2
    exact ⟨rfl, rfl, rfl, (fun q => (by cases q)), h0⟩
  unfold pOb at h
  by_cases h54 : ch = 54
  · rw [if_pos h54] at h
    have hn1 : nw = true := by rw [hnw]; exact decide_eq_true h54
    have hs1 : sb = false := by rw [hsb, hn1]; cases decide (0 < ch) <;> rfl
    subst hn1 hs1
    by_cases hu : u < 20
    · have e1 : cNl (fi, u, z, F) = (fi, u + 1, va_up z (slt fi u) 0, F) := by unfold cNl; exact if_pos hu
      rw [e1] at h
      cases h
      refine ⟨?_, ?_, ?_, fun q => (by cases q), by omega⟩
      · rw [if_pos rfl]; omega
      · rw [if_pos rfl, show u + 1 - 1 = u by omega, va_up_self]
      · rw [if_neg (by omega), if_neg (by decide)]
        show sumz (va_up z (slt fi u) 0) fi u + va_up z (slt fi u) 0 (slt fi u) + 0 = _
        rw [va_up_self, sumz_up u (fun l hl => slt_ne (by omega) (by omega) (by omega))]
    · have e1 : cNl (fi, u, z, F) = (slt fi 1, u, va_up z fi 0, F) := by unfold cNl; exact if_neg hu
      rw [e1] at h
      cases h
      have hu20 : u = 20 := by omega
      subst hu20
      refine ⟨?_, ?_, ?_, fun q => (by cases q), by omega⟩
      · rw [if_pos rfl]; rfl
      · rw [if_pos rfl, slt_back hf, va_up_self]
      · rw [if_pos ⟨rfl, rfl⟩, if_neg (by decide)]
        have e2 : sumz (va_up z fi 0) (slt fi 1) 20 = sumz (va_up z fi 0) (slt fi 1) 19 + va_up z fi 0 (slt (slt fi 1) 19) := rfl
        rw [e2, slt_back hf, va_up_self, sumz_up 19 (fun l hl => by rw [slt_slt]; exact slt_fi hf hl)]
        have e3 := sumz_sh (z := z) (fi := fi) 19
        omega
  · rw [if_neg h54] at h
    have hn1 : nw = false := by rw [hnw]; exact decide_eq_false h54
    by_cases hch : ch = 0
    · rw [if_pos hch] at h
      exact same h hn1 (by rw [hsb, hch]; rfl)
    · rw [if_neg hch] at h
      have hp : decide (0 < ch) = true := decide_eq_true (by omega)
      by_cases hfu : z (slt fi (u - 1)) = 40
      · have e1 : cFull (fi, u, z, F) = true := decide_eq_true hfu
        rw [if_pos e1] at h
        exact same h hn1 (by rw [hsb, hn1, hp, hfu]; rfl)
      · have e1 : ¬ cFull (fi, u, z, F) = true := fun q => hfu (of_decide_eq_true q)
        rw [if_neg e1] at h
        have hs1 : sb = true := by rw [hsb, hn1, hp, show decide (z (slt fi (u - 1)) < 40) = true from decide_eq_true (by omega)]; rfl
        subst hn1 hs1
        have e2 : cAdd (fi, u, z, F) ch = (fi, u, va_up z (slt fi (u - 1)) (z (slt fi (u - 1)) + 1), va_up F (slt fi (u - 1)) (va_up (F (slt fi (u - 1))) (z (slt fi (u - 1))) ch)) := rfl
        rw [e2] at h
        cases h
        refine ⟨rfl, ?_, ?_, fun _ => ⟨rfl, rfl, ?_⟩, h0⟩
        · rw [va_up_self, if_neg (by decide), if_pos rfl]
        · rw [if_neg (fun q => by cases q.1), if_pos rfl]
          obtain ⟨v, hv⟩ : ∃ v, u = v + 1 := ⟨u - 1, by omega⟩
          subst hv
          have e3 : sumz (va_up z (slt fi (v + 1 - 1)) (z (slt fi (v + 1 - 1)) + 1)) fi (v + 1) = sumz (va_up z (slt fi (v + 1 - 1)) (z (slt fi (v + 1 - 1)) + 1)) fi v + va_up z (slt fi (v + 1 - 1)) (z (slt fi (v + 1 - 1)) + 1) (slt fi v) := rfl
          have e4 : sumz z fi (v + 1) = sumz z fi v + z (slt fi v) := rfl
          rw [e3, e4, show v + 1 - 1 = v by omega, va_up_self, sumz_up v (fun l hl => slt_ne (by omega) (by omega) (by omega))]
          omega
        · rw [va_up_self, va_up_self]
theorem lost_facts {fi u : Nat} {z : Nat → Nat} {F : Nat → Nat → Nat} {ch : Nat} {lost : Int32} {nw lb : Bool} (hnw : nw = decide (ch = 54)) (hlb : lb = (decide (0 < ch) && !nw && decide (z (slt fi (u - 1)) = 40))) : lOb cFull ch (fi, u, z, F) lost = lost + nI (if lb = true then 1 else 0) := by
  have z0 : lost + nI 0 = lost := by rw [nI_0, Int32.add_zero]
  unfold lOb
  by_cases h54 : ch = 54
  · rw [if_pos h54]
    have hn1 : nw = true := by rw [hnw]; exact decide_eq_true h54
    rw [hlb, hn1]
    cases decide (0 < ch) <;> exact z0.symm
  · rw [if_neg h54]
    have hn1 : nw = false := by rw [hnw]; exact decide_eq_false h54
    by_cases hch : ch = 0
    · rw [if_pos hch, hlb, hch]
      exact z0.symm
    · rw [if_neg hch]
      have hp : decide (0 < ch) = true := decide_eq_true (by omega)
      by_cases hfu : z (slt fi (u - 1)) = 40
      · rw [if_pos (show cFull (fi, u, z, F) = true from decide_eq_true hfu), hlb, hn1, hp, hfu]
        rfl
      · rw [if_neg (show ¬ cFull (fi, u, z, F) = true from fun q => hfu (of_decide_eq_true q)), hlb, hn1, hp, decide_eq_false hfu]
        exact z0.symm
section SRI
variable {s : State} {H : Heap} {locs : List Loc} {A : Nat → Prop}
variable {k : mC} {ad : Nat → Nat} {bs N : Nat} {g : Nat → va_E} {uns : Bool} {play rd n : Nat} {lat : Nat → Int32} {gar T : Nat → Nat} {came : Nat} {mis lost bel : Int32} {fig : Bool} {u : Nat} {ln : Nat → Nat} {pg : Nat → Nat → Nat}
/-- an own array takes the role 57 -/
theorem SR.ins (R : Nat) (hE : mE k ad N A s) (hI : mI k ad N g A s H locs) (hS : SR k ad 57 N g uns play rd n lat gar T (came, mis, lost, bel, fig, u, ln, pg)) (hR : 57 + u ≤ R ∧ R < N) :
    ∃ (ad' : Nat → Nat) (g' : Nat → va_E), mE k ad' (58 + u) A s ∧ mI k ad' (58 + u) g' A s H locs ∧ (∀ i, i < 57 → ad' i = ad i) ∧ (∀ i, i < 57 → g' i = g i) ∧ ad' 57 = ad R ∧ g' 57 = g R ∧ SR k ad' 58 (58 + u) g' uns play rd n lat gar T (came, mis, lost, bel, fig, u, ln, pg) := by
  obtain ⟨⟨h9, h0⟩, h1, h2, h3, h4, h5, h6, h7, h8⟩ := hS
  have h0 : 57 + u ≤ N := h0
  have h8 : ∀ l, l < u → g (57 + l) = .inl (k.2.1.1, ln l, .inl (fun i => nI (pg l i))) := h8
  obtain ⟨rh, hrh⟩ : ∃ zz : Nat → Nat, zz = fun i => if i < 57 then i else if i = 57 then R else i - 1 := ⟨_, rfl⟩
  have rlo : ∀ i, i < 57 → rh i = i := fun i hi => by rw [hrh]; exact if_pos hi
  have r57 : rh 57 = R := by rw [hrh]; rfl
  have rhi : ∀ i, 57 < i → rh i = i - 1 := fun i hi => by rw [hrh]; show (if i < 57 then i else if i = 57 then R else i - 1) = _; rw [if_neg (by omega), if_neg (by omega)]
  obtain ⟨hE', hI'⟩ := m_re (fun i => ad (rh i)) (58 + u) (fun i => g (rh i)) rh hE hI (fun i hi => ⟨by rw [hrh]; show (if i < 57 then i else if i = 57 then R else i - 1) < N; (repeat' split) <;> omega, rfl, rfl⟩) (fun i j hi hj h => by
    rw [hrh] at h
    replace h : (if i < 57 then i else if i = 57 then R else i - 1) = (if j < 57 then j else if j = 57 then R else j - 1) := h
    (repeat' split at h) <;> omega)
  refine ⟨_, _, hE', hI', fun i hi => ?_, fun i hi => ?_, ?_, ?_, ⟨by decide, Nat.le_refl _⟩, ?_, ?_, ?_, ?_, ?_, ?_, ?_, fun l hl => ?_⟩
  · show ad (rh i) = ad i
    rw [rlo i hi]
  · show g (rh i) = g i
    rw [rlo i hi]
  · show ad (rh 57) = ad R
    rw [r57]
  · show g (rh 57) = g R
    rw [r57]
  · show g (rh 50) = .inr (4, [.ref (ad (rh 51)), .ref (ad (rh 52)), .ref (ad (rh 53)), .int (bI fig), .int (bI uns), .int (nI play), .ref (ad (rh 54)), .ref (ad (rh 55)), .ref (ad (rh 56)), .int (nI rd), .int (nI came), .int mis, .int lost, .int bel])
    rw [rlo 50 (by omega), rlo 51 (by omega), rlo 52 (by omega), rlo 53 (by omega), rlo 54 (by omega), rlo 55 (by omega), rlo 56 (by omega), h1]
  · show g (rh 51) = _
    rw [rlo 51 (by omega), h2]
  · show g (rh 52) = _
    rw [rlo 52 (by omega), h3]
  · show g (rh 53) = .inl (k.2.1.2.2.2, u, .inr (.inr (.inr (.inr (pgF (fun i => ad (rh i)) 58 u)))))
    rw [rlo 53 (by omega), h4]
    have e1 : pgF ad 57 u = pgF (fun i => ad (rh i)) 58 u := by
      funext j
      unfold pgF
      by_cases hj : j < u
      · rw [if_pos hj, if_pos hj]
        show some (ad (57 + j)) = some (ad (rh (58 + j)))
        rw [rhi _ (by omega), show 58 + j - 1 = 57 + j by omega]
      · rw [if_neg hj, if_neg hj]
    show (Sum.inl (k.2.1.2.2.2, u, .inr (.inr (.inr (.inr (pgF ad 57 u))))) : va_E) = _
    rw [e1]
  · show g (rh 54) = _
    rw [rlo 54 (by omega), h5]
  · show g (rh 55) = _
    rw [rlo 55 (by omega), h6]
  · show g (rh 56) = _
    rw [rlo 56 (by omega), h7]
  · have hl : l < u := hl
    show g (rh (58 + l)) = .inl (k.2.1.1, ln l, .inl (fun i => nI (pg l i)))
    rw [rhi _ (by omega), show 58 + l - 1 = 57 + l by omega, h8 l hl]
/-- the role 57 is given back -/
theorem SR.del (hE : mE k ad N A s) (hI : mI k ad N g A s H locs) (hS : SR k ad 58 N g uns play rd n lat gar T (came, mis, lost, bel, fig, u, ln, pg)) :
    ∃ (ad' : Nat → Nat) (g' : Nat → va_E), mE k ad' (57 + u) A s ∧ mI k ad' (57 + u) g' A s H locs ∧ (∀ i, i < 57 → ad' i = ad i) ∧ (∀ i, i < 57 → g' i = g i) ∧ SR k ad' 57 (57 + u) g' uns play rd n lat gar T (came, mis, lost, bel, fig, u, ln, pg) := by
  obtain ⟨⟨h9, h0⟩, h1, h2, h3, h4, h5, h6, h7, h8⟩ := hS
  have h0 : 58 + u ≤ N := h0
  have h8 : ∀ l, l < u → g (58 + l) = .inl (k.2.1.1, ln l, .inl (fun i => nI (pg l i))) := h8
  obtain ⟨rh, hrh⟩ : ∃ zz : Nat → Nat, zz = fun i => if i < 57 then i else i + 1 := ⟨_, rfl⟩
  have rlo : ∀ i, i < 57 → rh i = i := fun i hi => by rw [hrh]; exact if_pos hi
  have rhi : ∀ i, 57 ≤ i → rh i = i + 1 := fun i hi => by rw [hrh]; exact if_neg (by omega)
  obtain ⟨hE', hI'⟩ := m_re (fun i => ad (rh i)) (57 + u) (fun i => g (rh i)) rh hE hI (fun i hi => ⟨by rw [hrh]; show (if i < 57 then i else i + 1) < N; split <;> omega, rfl, rfl⟩) (fun i j hi hj h => by
    rw [hrh] at h
    replace h : (if i < 57 then i else i + 1) = (if j < 57 then j else j + 1) := h
    (repeat' split at h) <;> omega)
  refine ⟨_, _, hE', hI', fun i hi => ?_, fun i hi => ?_, ⟨by decide, Nat.le_refl _⟩, ?_, ?_, ?_, ?_, ?_, ?_, ?_, fun l hl => ?_⟩
  · show ad (rh i) = ad i
    rw [rlo i hi]
  · show g (rh i) = g i
    rw [rlo i hi]
  · show g (rh 50) = .inr (4, [.ref (ad (rh 51)), .ref (ad (rh 52)), .ref (ad (rh 53)), .int (bI fig), .int (bI uns), .int (nI play), .ref (ad (rh 54)), .ref (ad (rh 55)), .ref (ad (rh 56)), .int (nI rd), .int (nI came), .int mis, .int lost, .int bel])
    rw [rlo 50 (by omega), rlo 51 (by omega), rlo 52 (by omega), rlo 53 (by omega), rlo 54 (by omega), rlo 55 (by omega), rlo 56 (by omega), h1]
  · show g (rh 51) = _
    rw [rlo 51 (by omega), h2]
  · show g (rh 52) = _
    rw [rlo 52 (by omega), h3]
  · show g (rh 53) = .inl (k.2.1.2.2.2, u, .inr (.inr (.inr (.inr (pgF (fun i => ad (rh i)) 57 u)))))
    rw [rlo 53 (by omega), h4]
    have e1 : pgF ad 58 u = pgF (fun i => ad (rh i)) 57 u := by
      funext j
      unfold pgF
      by_cases hj : j < u
      · rw [if_pos hj, if_pos hj]
        show some (ad (58 + j)) = some (ad (rh (57 + j)))
        rw [rhi _ (by omega), show 57 + j + 1 = 58 + j by omega]
      · rw [if_neg hj, if_neg hj]
    show (Sum.inl (k.2.1.2.2.2, u, .inr (.inr (.inr (.inr (pgF ad 58 u))))) : va_E) = _
    rw [e1]
  · show g (rh 54) = _
    rw [rlo 54 (by omega), h5]
  · show g (rh 55) = _
    rw [rlo 55 (by omega), h6]
  · show g (rh 56) = _
    rw [rlo 56 (by omega), h7]
  · have hl : l < u := hl
    show g (rh (57 + l)) = .inl (k.2.1.1, ln l, .inl (fun i => nI (pg l i)))
    rw [rhi _ (by omega), show 57 + l + 1 = 58 + l by omega, h8 l hl]
end SRI
