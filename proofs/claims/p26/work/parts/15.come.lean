/-! Sim: its constructor, and a code that comes. -/
/-- what stays: the addresses below 51 and between, the cells between -/
def FRA (ad : Nat → Nat) (g : Nat → va_E) (bs : Nat) (ad1 : Nat → Nat) (g1 : Nat → va_E) : Prop := (∀ i, i < 51 → ad1 i = ad i) ∧ (∀ i, 57 ≤ i → i < bs → ad1 i = ad i) ∧ ∀ i, 57 ≤ i → i < bs → g1 i = g i
theorem FRA.rf {ad : Nat → Nat} {g : Nat → va_E} {bs : Nat} : FRA ad g bs ad g := ⟨fun _ _ => rfl, fun _ _ _ => rfl, fun _ _ _ => rfl⟩
theorem FRA.up {ad ad1 : Nat → Nat} {g g1 : Nat → va_E} {bs i : Nat} {e9 : va_E} (h : FRA ad g bs ad1 g1) (hi : i < 57 ∨ bs ≤ i) : FRA ad g bs ad1 (va_up g1 i e9) := ⟨h.1, h.2.1, fun j h1 h2 => (va_up_ne _ _ (by omega)).trans (h.2.2 j h1 h2)⟩
theorem FRA.go {ad ad1 ad2 : Nat → Nat} {g g1 g2 : Nat → va_E} {bs : Nat} (h : FRA ad g bs ad1 g1) (h2 : FRA ad1 g1 bs ad2 g2) : FRA ad g bs ad2 g2 := ⟨fun i hi => (h2.1 i hi).trans (h.1 i hi), fun i a1 a2 => (h2.2.1 i a1 a2).trans (h.2.1 i a1 a2), fun i a1 a2 => (h2.2.2 i a1 a2).trans (h.2.2 i a1 a2)⟩
theorem FRA.of {ad ad1 : Nat → Nat} {g g1 : Nat → va_E} {bs N : Nat} (hN : bs ≤ N) (h51 : 51 ≤ N) (ha : ∀ i, i < N → ad1 i = ad i) (hg : ∀ i, i < N → g1 i = g i) : FRA ad g bs ad1 g1 := ⟨fun i hi => ha i (by omega), fun i _ h2 => ha i (by omega), fun i _ h2 => hg i (by omega)⟩
theorem FRA.cl {ad : Nat → Nat} {g g1 : Nat → va_E} {bs : Nat} (hg : ∀ i, 50 ≤ i → g1 i = g i) : FRA ad g bs ad g1 := ⟨fun _ _ => rfl, fun _ _ _ => rfl, fun i h1 _ => hg i (by omega)⟩
theorem chF_2 : ∀ b : Bool, chF 2 b = 54 := by decide +kernel
theorem chF_54 : ∀ c, c < 32 → c ≠ 2 → ∀ b : Bool, chF c b ≠ 54 := by decide +kernel
theorem q_up (h : Nat → Option Nat) (q : Nat) : va_up (fun j => if j < q then h j else none) q (h q) = fun j => if j < q + 1 then h j else none := by
  funext j
  unfold va_up
  by_cases e1 : j = q
  · subst e1; rw [if_pos rfl, if_pos (by omega)]
  · rw [if_neg e1]
    show (if j < q then h j else none) = _
    by_cases e2 : j < q
    · rw [if_pos e2, if_pos (by omega)]
    · rw [if_neg e2, if_neg (by omega)]
theorem q_zero (h : Nat → Option Nat) : (fun _ : Nat => (none : Option Nat)) = fun j => if j < 0 then h j else none := funext fun j => (if_neg (Nat.not_lt_zero j)).symm
/-- where each role's cell was, behind a new line -/
def rho (bs m Rm Rr sh i : Nat) : Nat := if i = 53 then Rm else if i < bs then i else if i + 1 = bs + m then Rr else i + sh
section SRN
variable {s : State} {H : Heap} {locs : List Loc} {A : Nat → Prop}
variable {k : mC} {ad : Nat → Nat} {bs N : Nat} {g : Nat → va_E} {uns : Bool} {play rd n : Nat} {lat : Nat → Int32} {gar T : Nat → Nat} {came : Nat} {mis lost bel : Int32} {fig : Bool} {u : Nat} {ln : Nat → Nat} {pg : Nat → Nat → Nat}
/-- a new page: m lines, the last of them empty, the others were the lines sh places on -/
theorem SR.nlc (m sh Rm Rr : Nat) (ln1 : Nat → Nat) (pg1 : Nat → Nat → Nat) (hE : mE k ad N A s)
    (hI : mI k ad N (va_up g 50 (.inr (4, [.ref (ad 51), .ref (ad 52), .ref (ad Rm), .int (bI fig), .int (bI uns), .int (nI play), .ref (ad 54), .ref (ad 55), .ref (ad 56), .int (nI rd), .int (nI came), .int mis, .int lost, .int bel]))) A s H locs)
    (hS : SR k ad bs N g uns play rd n lat gar T (came, mis, lost, bel, fig, u, ln, pg)) (hm0 : 0 < m) (hRm : bs + u ≤ Rm ∧ Rm < N) (hRr : bs + u ≤ Rr ∧ Rr < N) (hne : Rm ≠ Rr) (hsh : m + sh ≤ u + 1)
    {f : Nat → Option Nat} {f0 : Nat → Int32} (hm : g Rm = .inl (k.2.1.2.2.2, m, .inr (.inr (.inr (.inr f))))) (hf : ∀ j, j < m → f j = some (ad (if j + 1 = m then Rr else bs + (j + sh)))) (hr : g Rr = .inl (k.2.1.1, 0, .inl f0))
    (hln : ∀ l, l + 1 < m → ln1 l = ln (l + sh) ∧ pg1 l = pg (l + sh)) (hl0 : ln1 (m - 1) = 0) :
    ∃ (ad' : Nat → Nat) (g' : Nat → va_E), mE k ad' (bs + m) A s ∧ mI k ad' (bs + m) g' A s H locs ∧ FRA ad g bs ad' g' ∧ (∀ i, i < 50 → g' i = g i) ∧ SR k ad' bs (bs + m) g' uns play rd n lat gar T (came, mis, lost, bel, fig, m, ln1, pg1) := by
  obtain ⟨⟨h9, h0⟩, h1, h2, h3, h4, h5, h6, h7, h8⟩ := hS
  have h0 : bs + u ≤ N := h0
  have h8 : ∀ l, l < u → g (bs + l) = .inl (k.2.1.1, ln l, .inl (fun i => nI (pg l i))) := h8
  have r53 : rho bs m Rm Rr sh 53 = Rm := if_pos rfl
  have rlo : ∀ i, i < bs → i ≠ 53 → rho bs m Rm Rr sh i = i := fun i hi hn => by unfold rho; rw [if_neg hn, if_pos hi]
  have rla : rho bs m Rm Rr sh (bs + (m - 1)) = Rr := by unfold rho; rw [if_neg (by omega), if_neg (by omega), if_pos (by omega)]
  have rmi : ∀ l, l + 1 < m → rho bs m Rm Rr sh (bs + l) = bs + (l + sh) := fun l hl => by unfold rho; rw [if_neg (by omega), if_neg (by omega), if_neg (by omega)]; omega
  have hI := m_fnq hI Rm hRm.2 (pgF (fun i => ad (rho bs m Rm Rr sh i)) bs m) (by rw [va_up_ne _ _ (by omega)]; exact hm) (fun j hj => by
    rw [hf j hj, pgF_in hj]
    show some (ad _) = some (ad (rho bs m Rm Rr sh (bs + j)))
    by_cases e1 : j + 1 = m
    · rw [if_pos e1, show bs + j = bs + (m - 1) by omega, rla]
    · rw [if_neg e1, rmi j (by omega)])
  have hI := m_fni hI Rr hRr.2 (fun i => nI (pg1 (m - 1) i)) (by rw [va_up_ne _ _ (by omega), va_up_ne _ _ (by omega)]; exact hr) (fun j hj => absurd hj (Nat.not_lt_zero _))
  obtain ⟨G, hG⟩ : ∃ zz, zz = va_up (va_up (va_up g 50 (.inr (4, [.ref (ad 51), .ref (ad 52), .ref (ad Rm), .int (bI fig), .int (bI uns), .int (nI play), .ref (ad 54), .ref (ad 55), .ref (ad 56), .int (nI rd), .int (nI came), .int mis, .int lost, .int bel]))) Rm (.inl (k.2.1.2.2.2, m, .inr (.inr (.inr (.inr (pgF (fun i => ad (rho bs m Rm Rr sh i)) bs m))))))) Rr (.inl (k.2.1.1, 0, .inl (fun i => nI (pg1 (m - 1) i)))) := ⟨_, rfl⟩
  rw [← hG] at hI
  have gRr : G Rr = .inl (k.2.1.1, 0, .inl (fun i => nI (pg1 (m - 1) i))) := by rw [hG, va_up_self]
  have gRm : G Rm = .inl (k.2.1.2.2.2, m, .inr (.inr (.inr (.inr (pgF (fun i => ad (rho bs m Rm Rr sh i)) bs m))))) := by rw [hG, va_up_ne _ _ hne, va_up_self]
  have g50 : G 50 = .inr (4, [.ref (ad 51), .ref (ad 52), .ref (ad Rm), .int (bI fig), .int (bI uns), .int (nI play), .ref (ad 54), .ref (ad 55), .ref (ad 56), .int (nI rd), .int (nI came), .int mis, .int lost, .int bel]) := by rw [hG, va_up_ne _ _ (by omega), va_up_ne _ _ (by omega), va_up_self]
  have gx : ∀ i, i ≠ 50 → i ≠ Rm → i ≠ Rr → G i = g i := fun i a1 a2 a3 => by rw [hG, va_up_ne _ _ a3, va_up_ne _ _ a2, va_up_ne _ _ a1]
  obtain ⟨hE', hI'⟩ := m_re (fun i => ad (rho bs m Rm Rr sh i)) (bs + m) (fun i => G (rho bs m Rm Rr sh i)) (rho bs m Rm Rr sh) hE hI (fun i hi => ⟨by unfold rho; (repeat' split) <;> omega, rfl, rfl⟩) (fun i j hi hj h => by
    unfold rho at h
    (repeat' split at h) <;> omega)
  refine ⟨_, _, hE', hI', ⟨fun i hi => ?_, fun i a1 a2 => ?_, fun i a1 a2 => ?_⟩, fun i hi => ?_, ⟨h9, Nat.le_refl _⟩, ?_, ?_, ?_, ?_, ?_, ?_, ?_, fun l hl => ?_⟩
  · show ad (rho bs m Rm Rr sh i) = ad i
    rw [rlo i (by omega) (by omega)]
  · show ad (rho bs m Rm Rr sh i) = ad i
    rw [rlo i (by omega) (by omega)]
  · show G (rho bs m Rm Rr sh i) = g i
    rw [rlo i (by omega) (by omega), gx i (by omega) (by omega) (by omega)]
  · show G (rho bs m Rm Rr sh i) = g i
    rw [rlo i (by omega) (by omega), gx i (by omega) (by omega) (by omega)]
  · show G (rho bs m Rm Rr sh 50) = .inr (4, [.ref (ad (rho bs m Rm Rr sh 51)), .ref (ad (rho bs m Rm Rr sh 52)), .ref (ad (rho bs m Rm Rr sh 53)), .int (bI fig), .int (bI uns), .int (nI play), .ref (ad (rho bs m Rm Rr sh 54)), .ref (ad (rho bs m Rm Rr sh 55)), .ref (ad (rho bs m Rm Rr sh 56)), .int (nI rd), .int (nI came), .int mis, .int lost, .int bel])
    rw [r53, rlo 50 (by omega) (by omega), rlo 51 (by omega) (by omega), rlo 52 (by omega) (by omega), rlo 54 (by omega) (by omega), rlo 55 (by omega) (by omega), rlo 56 (by omega) (by omega), g50]
  · show G (rho bs m Rm Rr sh 51) = _
    rw [rlo 51 (by omega) (by omega), gx 51 (by omega) (by omega) (by omega), h2]
  · show G (rho bs m Rm Rr sh 52) = _
    rw [rlo 52 (by omega) (by omega), gx 52 (by omega) (by omega) (by omega), h3]
  · show G (rho bs m Rm Rr sh 53) = _
    rw [r53, gRm]
  · show G (rho bs m Rm Rr sh 54) = _
    rw [rlo 54 (by omega) (by omega), gx 54 (by omega) (by omega) (by omega), h5]
  · show G (rho bs m Rm Rr sh 55) = _
    rw [rlo 55 (by omega) (by omega), gx 55 (by omega) (by omega) (by omega), h6]
  · show G (rho bs m Rm Rr sh 56) = _
    rw [rlo 56 (by omega) (by omega), gx 56 (by omega) (by omega) (by omega), h7]
  · have hl : l < m := hl
    show G (rho bs m Rm Rr sh (bs + l)) = .inl (k.2.1.1, ln1 l, .inl (fun i => nI (pg1 l i)))
    by_cases e1 : l + 1 = m
    · rw [show l = m - 1 by omega, rla, gRr, hl0]
    · obtain ⟨e2, e3⟩ := hln l (by omega)
      rw [rmi l (by omega), gx _ (by omega) (by omega) (by omega), h8 _ (by omega), e2, e3]
/-- a line has one more character: its row is another cell -/
theorem SR.row (R ch : Nat) (hE : mE k ad N A s) (hI : mI k ad N (va_up g 53 (.inl (k.2.1.2.2.2, u, .inr (.inr (.inr (.inr (va_up (pgF ad bs u) (u - 1) (some (ad R))))))))) A s H locs)
    (hS : SR k ad bs N g uns play rd n lat gar T (came, mis, lost, bel, fig, u, ln, pg)) (hu0 : 0 < u) (hR : bs + u ≤ R ∧ R < N) (hr : g R = .inl (k.2.1.1, ln (u - 1) + 1, .inl (fun i => nI (va_up (pg (u - 1)) (ln (u - 1)) ch i)))) :
    ∃ (ad' : Nat → Nat) (g' : Nat → va_E), mE k ad' (bs + u) A s ∧ mI k ad' (bs + u) g' A s H locs ∧ FRA ad g bs ad' g' ∧ (∀ i, i < 50 → g' i = g i) ∧ SR k ad' bs (bs + u) g' uns play rd n lat gar T (came, mis, lost, bel, fig, sAdd (u, ln, pg) ch) := by
  obtain ⟨⟨h9, h0⟩, h1, h2, h3, h4, h5, h6, h7, h8⟩ := hS
  have h0 : bs + u ≤ N := h0
  have h8 : ∀ l, l < u → g (bs + l) = .inl (k.2.1.1, ln l, .inl (fun i => nI (pg l i))) := h8
  obtain ⟨G, hG⟩ : ∃ zz, zz = va_up g 53 (.inl (k.2.1.2.2.2, u, .inr (.inr (.inr (.inr (va_up (pgF ad bs u) (u - 1) (some (ad R)))))))) := ⟨_, rfl⟩
  rw [← hG] at hI
  have g53 : G 53 = .inl (k.2.1.2.2.2, u, .inr (.inr (.inr (.inr (va_up (pgF ad bs u) (u - 1) (some (ad R))))))) := by rw [hG, va_up_self]
  have gx : ∀ i, i ≠ 53 → G i = g i := fun i a1 => by rw [hG, va_up_ne _ _ a1]
  obtain ⟨rh, hrh⟩ : ∃ zz : Nat → Nat, zz = fun i => if i = bs + (u - 1) then R else i := ⟨_, rfl⟩
  have rla : rh (bs + (u - 1)) = R := by rw [hrh]; exact if_pos rfl
  have rlo : ∀ i, i ≠ bs + (u - 1) → rh i = i := fun i hn => by rw [hrh]; exact if_neg hn
  obtain ⟨hE', hI'⟩ := m_re (fun i => ad (rh i)) (bs + u) (fun i => G (rh i)) rh hE hI (fun i hi => ⟨by
    by_cases e1 : i = bs + (u - 1)
    · rw [e1, rla]; exact hR.2
    · rw [rlo i e1]; omega, rfl, rfl⟩) (fun i j hi hj h => by
    by_cases e1 : i = bs + (u - 1)
    · by_cases e2 : j = bs + (u - 1)
      · omega
      · rw [e1, rla, rlo j e2] at h; omega
    · by_cases e2 : j = bs + (u - 1)
      · rw [e2, rla, rlo i e1] at h; omega
      · rw [rlo i e1, rlo j e2] at h; exact h)
  refine ⟨_, _, hE', hI', ⟨fun i hi => ?_, fun i a1 a2 => ?_, fun i a1 a2 => ?_⟩, fun i hi => ?_, ⟨h9, Nat.le_refl _⟩, ?_, ?_, ?_, ?_, ?_, ?_, ?_, fun l hl => ?_⟩
  · show ad (rh i) = ad i
    rw [rlo i (by omega)]
  · show ad (rh i) = ad i
    rw [rlo i (by omega)]
  · show G (rh i) = g i
    rw [rlo i (by omega), gx i (by omega)]
  · show G (rh i) = g i
    rw [rlo i (by omega), gx i (by omega)]
  · show G (rh 50) = .inr (4, [.ref (ad (rh 51)), .ref (ad (rh 52)), .ref (ad (rh 53)), .int (bI fig), .int (bI uns), .int (nI play), .ref (ad (rh 54)), .ref (ad (rh 55)), .ref (ad (rh 56)), .int (nI rd), .int (nI came), .int mis, .int lost, .int bel])
    rw [rlo 50 (by omega), rlo 51 (by omega), rlo 52 (by omega), rlo 53 (by omega), rlo 54 (by omega), rlo 55 (by omega), rlo 56 (by omega), gx 50 (by omega), h1]
  · show G (rh 51) = _
    rw [rlo 51 (by omega), gx 51 (by omega), h2]
  · show G (rh 52) = _
    rw [rlo 52 (by omega), gx 52 (by omega), h3]
  · show G (rh 53) = .inl (k.2.1.2.2.2, u, .inr (.inr (.inr (.inr (pgF (fun i => ad (rh i)) bs u)))))
    rw [rlo 53 (by omega), g53]
    have e1 : va_up (pgF ad bs u) (u - 1) (some (ad R)) = pgF (fun i => ad (rh i)) bs u := by
      funext j
      by_cases e2 : j = u - 1
      · rw [e2, va_up_self, pgF_in (by omega)]
        show _ = some (ad (rh (bs + (u - 1))))
        rw [rla]
      · rw [va_up_ne _ _ e2]
        unfold pgF
        by_cases e3 : j < u
        · rw [if_pos e3, if_pos e3]
          show _ = some (ad (rh (bs + j)))
          rw [rlo _ (by omega)]
        · rw [if_neg e3, if_neg e3]
    rw [e1]
  · show G (rh 54) = _
    rw [rlo 54 (by omega), gx 54 (by omega), h5]
  · show G (rh 55) = _
    rw [rlo 55 (by omega), gx 55 (by omega), h6]
  · show G (rh 56) = _
    rw [rlo 56 (by omega), gx 56 (by omega), h7]
  · have hl : l < u := hl
    show G (rh (bs + l)) = .inl (k.2.1.1, va_up ln (u - 1) (ln (u - 1) + 1) l, .inl (fun i => nI (va_up pg (u - 1) (va_up (pg (u - 1)) (ln (u - 1)) ch) l i)))
    by_cases e1 : l = u - 1
    · rw [e1, rla, gx R (by omega), hr, va_up_self, va_up_self]
    · rw [rlo _ (by omega), gx _ (by omega), h8 l hl, va_up_ne _ _ e1, va_up_ne _ _ e1]
/-- the tape is another cell -/
theorem SR.tape (R n1 : Nat) (T1 : Nat → Nat) (hE : mE k ad N A s) (hI : mI k ad N (va_up g 50 (.inr (4, [.ref (ad 51), .ref (ad 52), .ref (ad 53), .int (bI fig), .int (bI uns), .int (nI play), .ref (ad 54), .ref (ad 55), .ref (ad R), .int (nI rd), .int (nI came), .int mis, .int lost, .int bel]))) A s H locs)
    (hS : SR k ad bs N g uns play rd n lat gar T (came, mis, lost, bel, fig, u, ln, pg)) (hR : bs + u ≤ R ∧ R < N) (hr : g R = .inl (k.2.1.1, n1, .inl (fun i => nI (T1 i)))) :
    ∃ (ad' : Nat → Nat) (g' : Nat → va_E), mE k ad' (bs + u) A s ∧ mI k ad' (bs + u) g' A s H locs ∧ FRA ad g bs ad' g' ∧ (∀ i, i < 50 → g' i = g i) ∧ SR k ad' bs (bs + u) g' uns play rd n1 lat gar T1 (came, mis, lost, bel, fig, u, ln, pg) := by
  obtain ⟨⟨h9, h0⟩, h1, h2, h3, h4, h5, h6, h7, h8⟩ := hS
  have h0 : bs + u ≤ N := h0
  have h8 : ∀ l, l < u → g (bs + l) = .inl (k.2.1.1, ln l, .inl (fun i => nI (pg l i))) := h8
  obtain ⟨G, hG⟩ : ∃ zz, zz = va_up g 50 (.inr (4, [.ref (ad 51), .ref (ad 52), .ref (ad 53), .int (bI fig), .int (bI uns), .int (nI play), .ref (ad 54), .ref (ad 55), .ref (ad R), .int (nI rd), .int (nI came), .int mis, .int lost, .int bel])) := ⟨_, rfl⟩
  rw [← hG] at hI
  have g50 : G 50 = .inr (4, [.ref (ad 51), .ref (ad 52), .ref (ad 53), .int (bI fig), .int (bI uns), .int (nI play), .ref (ad 54), .ref (ad 55), .ref (ad R), .int (nI rd), .int (nI came), .int mis, .int lost, .int bel]) := by rw [hG, va_up_self]
  have gx : ∀ i, i ≠ 50 → G i = g i := fun i a1 => by rw [hG, va_up_ne _ _ a1]
  obtain ⟨rh, hrh⟩ : ∃ zz : Nat → Nat, zz = fun i => if i = 56 then R else i := ⟨_, rfl⟩
  have rla : rh 56 = R := by rw [hrh]; exact if_pos rfl
  have rlo : ∀ i, i ≠ 56 → rh i = i := fun i hn => by rw [hrh]; exact if_neg hn
  obtain ⟨hE', hI'⟩ := m_re (fun i => ad (rh i)) (bs + u) (fun i => G (rh i)) rh hE hI (fun i hi => ⟨by
    by_cases e1 : i = 56
    · rw [e1, rla]; exact hR.2
    · rw [rlo i e1]; omega, rfl, rfl⟩) (fun i j hi hj h => by
    by_cases e1 : i = 56
    · by_cases e2 : j = 56
      · omega
      · rw [e1, rla, rlo j e2] at h; omega
    · by_cases e2 : j = 56
      · rw [e2, rla, rlo i e1] at h; omega
      · rw [rlo i e1, rlo j e2] at h; exact h)
  refine ⟨_, _, hE', hI', ⟨fun i hi => ?_, fun i a1 a2 => ?_, fun i a1 a2 => ?_⟩, fun i hi => ?_, ⟨h9, Nat.le_refl _⟩, ?_, ?_, ?_, ?_, ?_, ?_, ?_, fun l hl => ?_⟩
  · show ad (rh i) = ad i
    rw [rlo i (by omega)]
  · show ad (rh i) = ad i
    rw [rlo i (by omega)]
  · show G (rh i) = g i
    rw [rlo i (by omega), gx i (by omega)]
  · show G (rh i) = g i
    rw [rlo i (by omega), gx i (by omega)]
  · show G (rh 50) = .inr (4, [.ref (ad (rh 51)), .ref (ad (rh 52)), .ref (ad (rh 53)), .int (bI fig), .int (bI uns), .int (nI play), .ref (ad (rh 54)), .ref (ad (rh 55)), .ref (ad (rh 56)), .int (nI rd), .int (nI came), .int mis, .int lost, .int bel])
    rw [rla, rlo 50 (by omega), rlo 51 (by omega), rlo 52 (by omega), rlo 53 (by omega), rlo 54 (by omega), rlo 55 (by omega), g50]
  · show G (rh 51) = _
    rw [rlo 51 (by omega), gx 51 (by omega), h2]
  · show G (rh 52) = _
    rw [rlo 52 (by omega), gx 52 (by omega), h3]
  · show G (rh 53) = .inl (k.2.1.2.2.2, u, .inr (.inr (.inr (.inr (pgF (fun i => ad (rh i)) bs u)))))
    rw [rlo 53 (by omega), gx 53 (by omega), h4]
    have e1 : pgF (fun i => ad (rh i)) bs u = pgF ad bs u := pgF_grow (fun i a1 a2 => by show ad (rh i) = ad i; rw [rlo i (by omega)])
    rw [e1]
  · show G (rh 54) = _
    rw [rlo 54 (by omega), gx 54 (by omega), h5]
  · show G (rh 55) = _
    rw [rlo 55 (by omega), gx 55 (by omega), h6]
  · show G (rh 56) = _
    rw [rla, gx R (by omega), hr]
  · have hl : l < u := hl
    show G (rh (bs + l)) = .inl (k.2.1.1, ln l, .inl (fun i => nI (pg l i)))
    rw [rlo _ (by omega), gx _ (by omega), h8 l hl]
end SRN

set_option maxHeartbeats 8000000 in
set_option maxRecDepth 100000 in
theorem c_X4_init (k : mC) (l : Launch) (ad : Nat → Nat) (N : Nat) (g : Nat → va_E) (sz : Nat)  (hN : N = 51) (h50 : g 50 = .inr (4, [.null, .null, .null, .int (bI false), .int (bI false), .int (nI 0), .null, .null, .null, .int (nI 0), .int (nI 0), .int (nI 0), .int (nI 0), .int (nI 0)])) : mGv k l yX4_init wsX4_init { frames := 3, cells := 9, slots := 207, locals := 65 } ad N g sz 9 207 [.ref (ad 50)] (fun (ad1 : Nat → Nat) (N1 : Nat) (g1 : Nat → va_E) => (∀ i, i < 51 → ad1 i = ad i) ∧ (∀ i, i < 50 → g1 i = g i) ∧ N1 = 58 ∧ SR k ad1 57 N1 g1 false 0 0 0 (fun _ => nI 0) (fun _ => 0) (fun _ => 0) (0, nI 0, nI 0, nI 0, false, 1, (fun _ => 0), (fun _ _ => 0))) := by
  show Met l yX4_init wsX4_init { frames := 3, cells := 9, slots := 207, locals := 65 } (mPc k ad N g sz [.ref (ad 50)]) (va_Qv (S := mU) (fun w9 => (fun (ad1 : Nat → Nat) (N1 : Nat) (g1 : Nat → va_E) => (∀ i, i < 51 → ad1 i = ad i) ∧ (∀ i, i < 50 → g1 i = g i) ∧ N1 = 58 ∧ SR k ad1 57 N1 g1 false 0 0 0 (fun _ => nI 0) (fun _ => 0) (fun _ => 0) (0, nI 0, nI 0, nI 0, false, 1, (fun _ => 0), (fun _ _ => 0))) w9.1 w9.2.1 w9.2.2) (mBg k (mA ad N sz)) (mA ad N sz)) 9 207 (mA ad N sz)
  refine mOfG (Qc := fun z9 => va_Qv (S := mU) (fun w9 => (fun (ad1 : Nat → Nat) (N1 : Nat) (g1 : Nat → va_E) => (∀ i, i < 51 → ad1 i = ad i) ∧ (∀ i, i < 50 → g1 i = g i) ∧ N1 = 58 ∧ SR k ad1 57 N1 g1 false 0 0 0 (fun _ => nI 0) (fun _ => 0) (fun _ => 0) (0, nI 0, nI 0, nI 0, false, 1, (fun _ => 0), (fun _ _ => 0))) w9.1 w9.2.1 w9.2.2) (mBg k (mA ad N z9)) (mA ad N z9)) (cc := cX4_init) (maxL := 1) (ret := none) (by decide) rfl (Nat.le_of_ble_eq_true rfl) ?_
  intro p e s m below meth c hx hb hr hts hown hlocks hml hin H locs hH hE hI ls hl
  have hl : lv_has ls 1 [(0, .ref (ad 50))] := hl
  subst hN
  have hG0 : ∀ i, i < 50 → g i = g i := fun _ _ => rfl
  have hA0 : ∀ i, i < 51 → ad i = ad i := fun _ _ => rfl
  refine lv_aload_n hx hb dX4_init_0 rfl (lv_at hl 0 rfl) ?_
  refine W.objInit hx hb hown (hts (.methodLink RX4 1 objectInit) (by decide +kernel)) (hts (.instanceMethod objectInit) (by decide +kernel)) (hts (.code objectInit ⟨#[0xb1]⟩ 1 none) (by decide +kernel)) rfl (hl.1.trans hml.symm) rfl dX4_init_1 (Nat.le_of_ble_eq_true rfl) (Nat.le_of_ble_eq_true rfl) ?_
  show W p l e _ s m _ below meth c _ _ _ _ _ (F0 m 4 ls [])
  refine lv_aload_n hx hb dX4_init_4 rfl (lv_at hl 0 rfl) ?_
  refine lv_iconst (v := nI 0) hx hb dX4_init_5 (by decide) ?_
  refine m_top (show nI 0 = bI false from rfl) ?_
  refine m_callSNgq (As := [.int (bI false)]) (rest := [.ref (ad 50)]) (c1 := 2) (s1 := 87) ⟨hx, hb, hml, hown, hts⟩ hE hI (c_L_characters k l ad 51 g _ false) ⟨va_cnB 1 hts gX4_init_L_characters_n7 rfl rfl rfl hE.1.2.2.2.2.2.2.2.2.1 (hts (.initialized RL) (by decide +kernel)) (by decide +kernel) ⟨Nat.le_of_ble_eq_true rfl, Nat.le_of_ble_eq_true rfl⟩, hts (.static yL_characters) (by decide +kernel), trivial⟩ rfl hl.1 rfl (Nat.le_of_ble_eq_true rfl) dX4_init_6 (by omega) (by omega) ⟨(by show _ ≤ 9; omega), (by show _ ≤ 207; omega)⟩ (fun r9 ad1 N1 g9 H locs hp hE hI => ?_)
  obtain ⟨g1, hg1⟩ : ∃ zz, zz = g9 := ⟨_, rfl⟩
  rw [← hg1] at hp hI
  obtain ⟨hr1, hn1, hag1, hgg1, hnw1⟩ := hp
  subst hn1
  have hE : mE k ad1 52 (mA ad 51 s.heap.size) s := hE
  have hI : mI k ad1 52 g1 (mA ad 51 s.heap.size) s H locs := hI
  subst hr1
  replace hgg1 : ∀ i, i < 51 → g1 i = g i := hgg1
  have h50 : g1 50 = .inr (4, [.null, .null, .null, .int (bI false), .int (bI false), .int (nI 0), .null, .null, .null, .int (nI 0), .int (nI 0), .int (nI 0), .int (nI 0), .int (nI 0)]) := by rw [hgg1 _ (by omega)]; exact h50
  have hl : lv_has ls 1 [(0, .ref (ad1 50))] := by rw [hag1 50 (by omega)]; exact hl
  have hG0 : ∀ i, i < 50 → g1 i = g i := fun i hi => (hgg1 i (by omega)).trans (hG0 i hi)
  have hA0 : ∀ i, i < 51 → ad1 i = ad i := fun i hi => (hag1 i (by omega)).trans (hA0 i hi)
  have hnw1 : g1 51 = .inl (k.2.1.1, 32, .inl (fun j => nI (chF j false))) := hnw1
  show W p l e _ s m _ below meth c _ _ _ _ _ (F0 m _ _ (.ref (ad1 51) :: _))
  refine m_stk (show ([.ref (ad1 51), .ref (ad 50)] : List Value) = [.ref (ad1 51), .ref (ad1 50)] from by rw [hag1 50 (by omega)]) ?_
  refine m_put (ci := 4) (C := RX4) (T := TX4) (N' := 14) (ty := .array .int) hx hb hts (by decide +kernel) tyX4 tyX4_ok nmX4 hown hE hI 50 (by omega) h50 rfl 0 (by decide) (hts (.fieldLink RX4 13 "TapePrinterLaw$Sim" "letters" "[I") (by decide +kernel)) rfl (by decide +kernel) rfl rfl (Nat.le_of_ble_eq_true rfl) dX4_init_9 (fun H locs hI => ?_)
  obtain ⟨g2, hg2⟩ : ∃ zz, zz = va_up g1 50 (.inr (4, [.ref (ad1 51), .null, .null, .int (bI false), .int (bI false), .int (nI 0), .null, .null, .null, .int (nI 0), .int (nI 0), .int (nI 0), .int (nI 0), .int (nI 0)])) := ⟨_, rfl⟩
  replace hI : mI k ad1 52 g2 (mA ad 51 s.heap.size) s H locs := by rw [hg2]; exact hI
  have m_1 : g2 50 = .inr (4, [.ref (ad1 51), .null, .null, .int (bI false), .int (bI false), .int (nI 0), .null, .null, .null, .int (nI 0), .int (nI 0), .int (nI 0), .int (nI 0), .int (nI 0)]) := by rw [hg2, va_up_self]
  have m_2 : g2 51 = .inl (k.2.1.1, 32, .inl (fun j => nI (chF j false))) := by rw [hg2, va_up_ne _ _ (by omega)]; exact hnw1
  have hG0 : ∀ i, i < 50 → g2 i = g i := fun i hi => by rw [hg2, va_up_ne _ _ (by omega)]; exact hG0 i hi
  refine lv_aload_n hx hb dX4_init_12 rfl (lv_at hl 0 rfl) ?_
  refine lv_iconst (v := nI 1) hx hb dX4_init_13 (by decide) ?_
  refine m_top (show nI 1 = bI true from rfl) ?_
  refine m_callSNgq (As := [.int (bI true)]) (rest := [.ref (ad1 50)]) (c1 := 4) (s1 := 174) ⟨hx, hb, hml, hown, hts⟩ hE hI (c_L_characters k l ad1 52 g2 _ true) ⟨va_cnB 1 hts gX4_init_L_characters_n7 rfl rfl rfl hE.1.2.2.2.2.2.2.2.2.1 (hts (.initialized RL) (by decide +kernel)) (by decide +kernel) ⟨Nat.le_of_ble_eq_true rfl, Nat.le_of_ble_eq_true rfl⟩, hts (.static yL_characters) (by decide +kernel), trivial⟩ rfl hl.1 rfl (Nat.le_of_ble_eq_true rfl) dX4_init_14 (by omega) (by omega) ⟨(by show _ ≤ 9; omega), (by show _ ≤ 207; omega)⟩ (fun r9 ad2 N2 g9 H locs hp hE hI => ?_)
  obtain ⟨g3, hg3⟩ : ∃ zz, zz = g9 := ⟨_, rfl⟩
  rw [← hg3] at hp hI
  obtain ⟨hr2, hn2, hag2, hgg2, hnw2⟩ := hp
  subst hn2
  have hE : mE k ad2 53 (mA ad 51 s.heap.size) s := hE
  have hI : mI k ad2 53 g3 (mA ad 51 s.heap.size) s H locs := hI
  subst hr2
  replace hgg2 : ∀ i, i < 52 → g3 i = g2 i := hgg2
  have m_1 : g3 50 = .inr (4, [.ref (ad2 51), .null, .null, .int (bI false), .int (bI false), .int (nI 0), .null, .null, .null, .int (nI 0), .int (nI 0), .int (nI 0), .int (nI 0), .int (nI 0)]) := by rw [hgg2 _ (by omega), hag2 51 (by omega)]; exact m_1
  have m_2 : g3 51 = .inl (k.2.1.1, 32, .inl (fun j => nI (chF j false))) := by rw [hgg2 _ (by omega)]; exact m_2
  have hl : lv_has ls 1 [(0, .ref (ad2 50))] := by rw [hag2 50 (by omega)]; exact hl
  have hG0 : ∀ i, i < 50 → g3 i = g i := fun i hi => (hgg2 i (by omega)).trans (hG0 i hi)
  have hA0 : ∀ i, i < 51 → ad2 i = ad i := fun i hi => (hag2 i (by omega)).trans (hA0 i hi)
  have hnw2 : g3 52 = .inl (k.2.1.1, 32, .inl (fun j => nI (chF j true))) := hnw2
  show W p l e _ s m _ below meth c _ _ _ _ _ (F0 m _ _ (.ref (ad2 52) :: _))
  refine m_stk (show ([.ref (ad2 52), .ref (ad1 50)] : List Value) = [.ref (ad2 52), .ref (ad2 50)] from by rw [hag2 50 (by omega)]) ?_
  refine m_put (ci := 4) (C := RX4) (T := TX4) (N' := 14) (ty := .array .int) hx hb hts (by decide +kernel) tyX4 tyX4_ok nmX4 hown hE hI 50 (by omega) m_1 rfl 1 (by decide) (hts (.fieldLink RX4 19 "TapePrinterLaw$Sim" "figures" "[I") (by decide +kernel)) rfl (by decide +kernel) rfl rfl (Nat.le_of_ble_eq_true rfl) dX4_init_17 (fun H locs hI => ?_)
  obtain ⟨g4, hg4⟩ : ∃ zz, zz = va_up g3 50 (.inr (4, [.ref (ad2 51), .ref (ad2 52), .null, .int (bI false), .int (bI false), .int (nI 0), .null, .null, .null, .int (nI 0), .int (nI 0), .int (nI 0), .int (nI 0), .int (nI 0)])) := ⟨_, rfl⟩
  replace hI : mI k ad2 53 g4 (mA ad 51 s.heap.size) s H locs := by rw [hg4]; exact hI
  have m_3 : g4 50 = .inr (4, [.ref (ad2 51), .ref (ad2 52), .null, .int (bI false), .int (bI false), .int (nI 0), .null, .null, .null, .int (nI 0), .int (nI 0), .int (nI 0), .int (nI 0), .int (nI 0)]) := by rw [hg4, va_up_self]
  have m_4 : g4 51 = .inl (k.2.1.1, 32, .inl (fun j => nI (chF j false))) := by rw [hg4, va_up_ne _ _ (by omega)]; exact m_2
  have m_5 : g4 52 = .inl (k.2.1.1, 32, .inl (fun j => nI (chF j true))) := by rw [hg4, va_up_ne _ _ (by omega)]; exact hnw2
  have hG0 : ∀ i, i < 50 → g4 i = g i := fun i hi => by rw [hg4, va_up_ne _ _ (by omega)]; exact hG0 i hi
  refine lv_aload_n hx hb dX4_init_20 rfl (lv_at hl 0 rfl) ?_
  refine lv_iconst (v := nI 1) hx hb dX4_init_21 (by decide) ?_
  refine m_new2 (n := 1) (c1 := 5) (s1 := 175) hx hb hown (hts (.classLink RX4 22 "[I") (by decide +kernel)) hE hI (by omega) (by omega) (by omega) (by show _ ≤ 9; omega) (by show _ ≤ 207; omega) dX4_init_22 (fun ad3 H hag3 hE hI => ?_)
  obtain ⟨g5, hg5⟩ : ∃ zz, zz = va_up g4 53 (.inl (k.2.1.2.2.2, 1, .inr (.inr (.inr (.inr (fun _ => none)))))) := ⟨_, rfl⟩
  have hE : mE k ad3 54 (mA ad 51 s.heap.size) s := hE
  replace hI : mI k ad3 54 g5 (mA ad 51 s.heap.size) s H locs := by rw [hg5]; exact hI
  have hgg3 : ∀ i, i < 53 → g5 i = g4 i := fun i hi => by rw [hg5, va_up_ne _ _ (by omega)]
  have m_3 : g5 50 = .inr (4, [.ref (ad3 51), .ref (ad3 52), .null, .int (bI false), .int (bI false), .int (nI 0), .null, .null, .null, .int (nI 0), .int (nI 0), .int (nI 0), .int (nI 0), .int (nI 0)]) := by rw [hgg3 _ (by omega), hag3 51 (by omega), hag3 52 (by omega)]; exact m_3
  have m_4 : g5 51 = .inl (k.2.1.1, 32, .inl (fun j => nI (chF j false))) := by rw [hgg3 _ (by omega)]; exact m_4
  have m_5 : g5 52 = .inl (k.2.1.1, 32, .inl (fun j => nI (chF j true))) := by rw [hgg3 _ (by omega)]; exact m_5
  have hl : lv_has ls 1 [(0, .ref (ad3 50))] := by rw [hag3 50 (by omega)]; exact hl
  have hG0 : ∀ i, i < 50 → g5 i = g i := fun i hi => (hgg3 i (by omega)).trans (hG0 i hi)
  have hA0 : ∀ i, i < 51 → ad3 i = ad i := fun i hi => (hag3 i (by omega)).trans (hA0 i hi)
  have hnw3 : g5 53 = .inl (k.2.1.2.2.2, 1, .inr (.inr (.inr (.inr (fun _ => none))))) := by rw [hg5, va_up_self]
  refine m_stk (show ([.ref (ad3 53), .ref (ad2 50)] : List Value) = [.ref (ad3 53), .ref (ad3 50)] from by rw [hag3 50 (by omega)]) ?_
  refine lv_dup hx hb dX4_init_25 rfl ?_
  refine lv_iconst (v := nI 0) hx hb dX4_init_26 (by decide) ?_
  refine lv_iconst (v := nI 0) hx hb dX4_init_27 (by decide) ?_
  refine m_newi (n := 0) (c1 := 6) (s1 := 175) hx hb (hts (.arrayClass .int) (by decide +kernel)) hE hI (by omega) (by omega) (by omega) (by show _ ≤ 9; omega) (by show _ ≤ 207; omega) dX4_init_28 (fun ad4 H hag4 hE hI => ?_)
  obtain ⟨g6, hg6⟩ : ∃ zz, zz = va_up g5 54 (.inl (k.2.1.1, 0, .inl (fun _ => nI 0))) := ⟨_, rfl⟩
  have hE : mE k ad4 55 (mA ad 51 s.heap.size) s := hE
  replace hI : mI k ad4 55 g6 (mA ad 51 s.heap.size) s H locs := by rw [hg6]; exact hI
  have hgg4 : ∀ i, i < 54 → g6 i = g5 i := fun i hi => by rw [hg6, va_up_ne _ _ (by omega)]
  have m_3 : g6 50 = .inr (4, [.ref (ad4 51), .ref (ad4 52), .null, .int (bI false), .int (bI false), .int (nI 0), .null, .null, .null, .int (nI 0), .int (nI 0), .int (nI 0), .int (nI 0), .int (nI 0)]) := by rw [hgg4 _ (by omega), hag4 51 (by omega), hag4 52 (by omega)]; exact m_3
  have m_4 : g6 51 = .inl (k.2.1.1, 32, .inl (fun j => nI (chF j false))) := by rw [hgg4 _ (by omega)]; exact m_4
  have m_5 : g6 52 = .inl (k.2.1.1, 32, .inl (fun j => nI (chF j true))) := by rw [hgg4 _ (by omega)]; exact m_5
  have hnw3 : g6 53 = .inl (k.2.1.2.2.2, 1, .inr (.inr (.inr (.inr (fun _ => none))))) := by rw [hgg4 _ (by omega)]; exact hnw3
  have hl : lv_has ls 1 [(0, .ref (ad4 50))] := by rw [hag4 50 (by omega)]; exact hl
  have hG0 : ∀ i, i < 50 → g6 i = g i := fun i hi => (hgg4 i (by omega)).trans (hG0 i hi)
  have hA0 : ∀ i, i < 51 → ad4 i = ad i := fun i hi => (hag4 i (by omega)).trans (hA0 i hi)
  have hnw4 : g6 54 = .inl (k.2.1.1, 0, .inl (fun _ => nI 0)) := by rw [hg6, va_up_self]
  refine m_stk (show ([.ref (ad4 54), .int (nI 0), .ref (ad3 53), .ref (ad3 53), .ref (ad3 50)] : List Value) = [.ref (ad4 54), .int (nI 0), .ref (ad4 53), .ref (ad4 53), .ref (ad4 50)] from by rw [hag4 50 (by omega), hag4 53 (by omega)]) ?_
  refine m_ast2 hx hb hE hI 53 54 (by omega) (by omega) (j := 0) hnw3 hnw4 (by omega) (by omega) dX4_init_30 (fun H locs hI => ?_)
  obtain ⟨g7, hg7⟩ : ∃ zz, zz = va_up g6 53 (.inl (k.2.1.2.2.2, 1, .inr (.inr (.inr (.inr (va_up (fun _ => none) 0 (some (ad4 54)))))))) := ⟨_, rfl⟩
  replace hI : mI k ad4 55 g7 (mA ad 51 s.heap.size) s H locs := by rw [hg7]; exact hI
  have m_6 : g7 50 = .inr (4, [.ref (ad4 51), .ref (ad4 52), .null, .int (bI false), .int (bI false), .int (nI 0), .null, .null, .null, .int (nI 0), .int (nI 0), .int (nI 0), .int (nI 0), .int (nI 0)]) := by rw [hg7, va_up_ne _ _ (by omega)]; exact m_3
  have m_7 : g7 51 = .inl (k.2.1.1, 32, .inl (fun j => nI (chF j false))) := by rw [hg7, va_up_ne _ _ (by omega)]; exact m_4
  have m_8 : g7 52 = .inl (k.2.1.1, 32, .inl (fun j => nI (chF j true))) := by rw [hg7, va_up_ne _ _ (by omega)]; exact m_5
  have m_9 : g7 53 = .inl (k.2.1.2.2.2, 1, .inr (.inr (.inr (.inr (va_up (fun _ => none) 0 (some (ad4 54))))))) := by rw [hg7, va_up_self]
  have m_10 : g7 54 = .inl (k.2.1.1, 0, .inl (fun _ => nI 0)) := by rw [hg7, va_up_ne _ _ (by omega)]; exact hnw4
  have hG0 : ∀ i, i < 50 → g7 i = g i := fun i hi => by rw [hg7, va_up_ne _ _ (by omega)]; exact hG0 i hi
  refine m_put (ci := 4) (C := RX4) (T := TX4) (N' := 14) (ty := .array (.array .int)) hx hb hts (by decide +kernel) tyX4 tyX4_ok nmX4 hown hE hI 50 (by omega) m_6 rfl 2 (by decide) (hts (.fieldLink RX4 23 "TapePrinterLaw$Sim" "page" "[[I") (by decide +kernel)) rfl (by decide +kernel) rfl rfl (Nat.le_of_ble_eq_true rfl) dX4_init_31 (fun H locs hI => ?_)
  obtain ⟨g8, hg8⟩ : ∃ zz, zz = va_up g7 50 (.inr (4, [.ref (ad4 51), .ref (ad4 52), .ref (ad4 53), .int (bI false), .int (bI false), .int (nI 0), .null, .null, .null, .int (nI 0), .int (nI 0), .int (nI 0), .int (nI 0), .int (nI 0)])) := ⟨_, rfl⟩
  replace hI : mI k ad4 55 g8 (mA ad 51 s.heap.size) s H locs := by rw [hg8]; exact hI
  have m_11 : g8 50 = .inr (4, [.ref (ad4 51), .ref (ad4 52), .ref (ad4 53), .int (bI false), .int (bI false), .int (nI 0), .null, .null, .null, .int (nI 0), .int (nI 0), .int (nI 0), .int (nI 0), .int (nI 0)]) := by rw [hg8, va_up_self]
  have m_12 : g8 51 = .inl (k.2.1.1, 32, .inl (fun j => nI (chF j false))) := by rw [hg8, va_up_ne _ _ (by omega)]; exact m_7
  have m_13 : g8 52 = .inl (k.2.1.1, 32, .inl (fun j => nI (chF j true))) := by rw [hg8, va_up_ne _ _ (by omega)]; exact m_8
  have m_14 : g8 53 = .inl (k.2.1.2.2.2, 1, .inr (.inr (.inr (.inr (va_up (fun _ => none) 0 (some (ad4 54))))))) := by rw [hg8, va_up_ne _ _ (by omega)]; exact m_9
  have m_15 : g8 54 = .inl (k.2.1.1, 0, .inl (fun _ => nI 0)) := by rw [hg8, va_up_ne _ _ (by omega)]; exact m_10
  have hG0 : ∀ i, i < 50 → g8 i = g i := fun i hi => by rw [hg8, va_up_ne _ _ (by omega)]; exact hG0 i hi
  refine lv_aload_n hx hb dX4_init_34 rfl (lv_at hl 0 rfl) ?_
  refine lv_bipush (v := nI 16) hx hb dX4_init_35 (by decide) ?_
  refine m_newi (n := 16) (c1 := 7) (s1 := 191) hx hb (hts (.arrayClass .int) (by decide +kernel)) hE hI (by omega) (by omega) (by omega) (by show _ ≤ 9; omega) (by show _ ≤ 207; omega) dX4_init_37 (fun ad5 H hag5 hE hI => ?_)
  obtain ⟨g9, hg9⟩ : ∃ zz, zz = va_up g8 55 (.inl (k.2.1.1, 16, .inl (fun _ => nI 0))) := ⟨_, rfl⟩
  have hE : mE k ad5 56 (mA ad 51 s.heap.size) s := hE
  replace hI : mI k ad5 56 g9 (mA ad 51 s.heap.size) s H locs := by rw [hg9]; exact hI
  have hgg5 : ∀ i, i < 55 → g9 i = g8 i := fun i hi => by rw [hg9, va_up_ne _ _ (by omega)]
  have m_11 : g9 50 = .inr (4, [.ref (ad5 51), .ref (ad5 52), .ref (ad5 53), .int (bI false), .int (bI false), .int (nI 0), .null, .null, .null, .int (nI 0), .int (nI 0), .int (nI 0), .int (nI 0), .int (nI 0)]) := by rw [hgg5 _ (by omega), hag5 51 (by omega), hag5 52 (by omega), hag5 53 (by omega)]; exact m_11
  have m_12 : g9 51 = .inl (k.2.1.1, 32, .inl (fun j => nI (chF j false))) := by rw [hgg5 _ (by omega)]; exact m_12
  have m_13 : g9 52 = .inl (k.2.1.1, 32, .inl (fun j => nI (chF j true))) := by rw [hgg5 _ (by omega)]; exact m_13
  have m_14 : g9 53 = .inl (k.2.1.2.2.2, 1, .inr (.inr (.inr (.inr (va_up (fun _ => none) 0 (some (ad4 54))))))) := by rw [hgg5 _ (by omega)]; exact m_14
  have m_15 : g9 54 = .inl (k.2.1.1, 0, .inl (fun _ => nI 0)) := by rw [hgg5 _ (by omega)]; exact m_15
  have hl : lv_has ls 1 [(0, .ref (ad5 50))] := by rw [hag5 50 (by omega)]; exact hl
  have hG0 : ∀ i, i < 50 → g9 i = g i := fun i hi => (hgg5 i (by omega)).trans (hG0 i hi)
  have hA0 : ∀ i, i < 51 → ad5 i = ad i := fun i hi => (hag5 i (by omega)).trans (hA0 i hi)
  have hnw5 : g9 55 = .inl (k.2.1.1, 16, .inl (fun _ => nI 0)) := by rw [hg9, va_up_self]
  refine m_stk (show ([.ref (ad5 55), .ref (ad4 50)] : List Value) = [.ref (ad5 55), .ref (ad5 50)] from by rw [hag5 50 (by omega)]) ?_
  refine m_put (ci := 4) (C := RX4) (T := TX4) (N' := 14) (ty := .array .int) hx hb hts (by decide +kernel) tyX4 tyX4_ok nmX4 hown hE hI 50 (by omega) m_11 rfl 6 (by decide) (hts (.fieldLink RX4 27 "TapePrinterLaw$Sim" "late" "[I") (by decide +kernel)) rfl (by decide +kernel) rfl rfl (Nat.le_of_ble_eq_true rfl) dX4_init_39 (fun H locs hI => ?_)
  obtain ⟨g10, hg10⟩ : ∃ zz, zz = va_up g9 50 (.inr (4, [.ref (ad5 51), .ref (ad5 52), .ref (ad5 53), .int (bI false), .int (bI false), .int (nI 0), .ref (ad5 55), .null, .null, .int (nI 0), .int (nI 0), .int (nI 0), .int (nI 0), .int (nI 0)])) := ⟨_, rfl⟩
  replace hI : mI k ad5 56 g10 (mA ad 51 s.heap.size) s H locs := by rw [hg10]; exact hI
  have m_16 : g10 50 = .inr (4, [.ref (ad5 51), .ref (ad5 52), .ref (ad5 53), .int (bI false), .int (bI false), .int (nI 0), .ref (ad5 55), .null, .null, .int (nI 0), .int (nI 0), .int (nI 0), .int (nI 0), .int (nI 0)]) := by rw [hg10, va_up_self]
  have m_17 : g10 51 = .inl (k.2.1.1, 32, .inl (fun j => nI (chF j false))) := by rw [hg10, va_up_ne _ _ (by omega)]; exact m_12
  have m_18 : g10 52 = .inl (k.2.1.1, 32, .inl (fun j => nI (chF j true))) := by rw [hg10, va_up_ne _ _ (by omega)]; exact m_13
  have m_19 : g10 53 = .inl (k.2.1.2.2.2, 1, .inr (.inr (.inr (.inr (va_up (fun _ => none) 0 (some (ad4 54))))))) := by rw [hg10, va_up_ne _ _ (by omega)]; exact m_14
  have m_20 : g10 54 = .inl (k.2.1.1, 0, .inl (fun _ => nI 0)) := by rw [hg10, va_up_ne _ _ (by omega)]; exact m_15
  have m_21 : g10 55 = .inl (k.2.1.1, 16, .inl (fun _ => nI 0)) := by rw [hg10, va_up_ne _ _ (by omega)]; exact hnw5
  have hG0 : ∀ i, i < 50 → g10 i = g i := fun i hi => by rw [hg10, va_up_ne _ _ (by omega)]; exact hG0 i hi
  refine lv_aload_n hx hb dX4_init_42 rfl (lv_at hl 0 rfl) ?_
  refine lv_bipush (v := nI 16) hx hb dX4_init_43 (by decide) ?_
  refine m_newi (n := 16) (c1 := 8) (s1 := 207) hx hb (hts (.arrayClass .int) (by decide +kernel)) hE hI (by omega) (by omega) (by omega) (by show _ ≤ 9; omega) (by show _ ≤ 207; omega) dX4_init_45 (fun ad6 H hag6 hE hI => ?_)
  obtain ⟨g11, hg11⟩ : ∃ zz, zz = va_up g10 56 (.inl (k.2.1.1, 16, .inl (fun _ => nI 0))) := ⟨_, rfl⟩
  have hE : mE k ad6 57 (mA ad 51 s.heap.size) s := hE
  replace hI : mI k ad6 57 g11 (mA ad 51 s.heap.size) s H locs := by rw [hg11]; exact hI
  have hgg6 : ∀ i, i < 56 → g11 i = g10 i := fun i hi => by rw [hg11, va_up_ne _ _ (by omega)]
  have m_16 : g11 50 = .inr (4, [.ref (ad6 51), .ref (ad6 52), .ref (ad6 53), .int (bI false), .int (bI false), .int (nI 0), .ref (ad6 55), .null, .null, .int (nI 0), .int (nI 0), .int (nI 0), .int (nI 0), .int (nI 0)]) := by rw [hgg6 _ (by omega), hag6 51 (by omega), hag6 52 (by omega), hag6 53 (by omega), hag6 55 (by omega)]; exact m_16
  have m_17 : g11 51 = .inl (k.2.1.1, 32, .inl (fun j => nI (chF j false))) := by rw [hgg6 _ (by omega)]; exact m_17
  have m_18 : g11 52 = .inl (k.2.1.1, 32, .inl (fun j => nI (chF j true))) := by rw [hgg6 _ (by omega)]; exact m_18
  have m_19 : g11 53 = .inl (k.2.1.2.2.2, 1, .inr (.inr (.inr (.inr (va_up (fun _ => none) 0 (some (ad4 54))))))) := by rw [hgg6 _ (by omega)]; exact m_19
  have m_20 : g11 54 = .inl (k.2.1.1, 0, .inl (fun _ => nI 0)) := by rw [hgg6 _ (by omega)]; exact m_20
  have m_21 : g11 55 = .inl (k.2.1.1, 16, .inl (fun _ => nI 0)) := by rw [hgg6 _ (by omega)]; exact m_21
  have hl : lv_has ls 1 [(0, .ref (ad6 50))] := by rw [hag6 50 (by omega)]; exact hl
  have hG0 : ∀ i, i < 50 → g11 i = g i := fun i hi => (hgg6 i (by omega)).trans (hG0 i hi)
  have hA0 : ∀ i, i < 51 → ad6 i = ad i := fun i hi => (hag6 i (by omega)).trans (hA0 i hi)
  have hnw6 : g11 56 = .inl (k.2.1.1, 16, .inl (fun _ => nI 0)) := by rw [hg11, va_up_self]
  refine m_stk (show ([.ref (ad6 56), .ref (ad5 50)] : List Value) = [.ref (ad6 56), .ref (ad6 50)] from by rw [hag6 50 (by omega)]) ?_
  refine m_put (ci := 4) (C := RX4) (T := TX4) (N' := 14) (ty := .array .int) hx hb hts (by decide +kernel) tyX4 tyX4_ok nmX4 hown hE hI 50 (by omega) m_16 rfl 7 (by decide) (hts (.fieldLink RX4 30 "TapePrinterLaw$Sim" "garble" "[I") (by decide +kernel)) rfl (by decide +kernel) rfl rfl (Nat.le_of_ble_eq_true rfl) dX4_init_47 (fun H locs hI => ?_)
  obtain ⟨g12, hg12⟩ : ∃ zz, zz = va_up g11 50 (.inr (4, [.ref (ad6 51), .ref (ad6 52), .ref (ad6 53), .int (bI false), .int (bI false), .int (nI 0), .ref (ad6 55), .ref (ad6 56), .null, .int (nI 0), .int (nI 0), .int (nI 0), .int (nI 0), .int (nI 0)])) := ⟨_, rfl⟩
  replace hI : mI k ad6 57 g12 (mA ad 51 s.heap.size) s H locs := by rw [hg12]; exact hI
  have m_22 : g12 50 = .inr (4, [.ref (ad6 51), .ref (ad6 52), .ref (ad6 53), .int (bI false), .int (bI false), .int (nI 0), .ref (ad6 55), .ref (ad6 56), .null, .int (nI 0), .int (nI 0), .int (nI 0), .int (nI 0), .int (nI 0)]) := by rw [hg12, va_up_self]
  have m_23 : g12 51 = .inl (k.2.1.1, 32, .inl (fun j => nI (chF j false))) := by rw [hg12, va_up_ne _ _ (by omega)]; exact m_17
  have m_24 : g12 52 = .inl (k.2.1.1, 32, .inl (fun j => nI (chF j true))) := by rw [hg12, va_up_ne _ _ (by omega)]; exact m_18
  have m_25 : g12 53 = .inl (k.2.1.2.2.2, 1, .inr (.inr (.inr (.inr (va_up (fun _ => none) 0 (some (ad4 54))))))) := by rw [hg12, va_up_ne _ _ (by omega)]; exact m_19
  have m_26 : g12 54 = .inl (k.2.1.1, 0, .inl (fun _ => nI 0)) := by rw [hg12, va_up_ne _ _ (by omega)]; exact m_20
  have m_27 : g12 55 = .inl (k.2.1.1, 16, .inl (fun _ => nI 0)) := by rw [hg12, va_up_ne _ _ (by omega)]; exact m_21
  have m_28 : g12 56 = .inl (k.2.1.1, 16, .inl (fun _ => nI 0)) := by rw [hg12, va_up_ne _ _ (by omega)]; exact hnw6
  have hG0 : ∀ i, i < 50 → g12 i = g i := fun i hi => by rw [hg12, va_up_ne _ _ (by omega)]; exact hG0 i hi
  refine lv_aload_n hx hb dX4_init_50 rfl (lv_at hl 0 rfl) ?_
  refine lv_iconst (v := nI 0) hx hb dX4_init_51 (by decide) ?_
  refine m_newi (n := 0) (c1 := 9) (s1 := 207) hx hb (hts (.arrayClass .int) (by decide +kernel)) hE hI (by omega) (by omega) (by omega) (by show _ ≤ 9; omega) (by show _ ≤ 207; omega) dX4_init_52 (fun ad7 H hag7 hE hI => ?_)
  obtain ⟨g13, hg13⟩ : ∃ zz, zz = va_up g12 57 (.inl (k.2.1.1, 0, .inl (fun _ => nI 0))) := ⟨_, rfl⟩
  have hE : mE k ad7 58 (mA ad 51 s.heap.size) s := hE
  replace hI : mI k ad7 58 g13 (mA ad 51 s.heap.size) s H locs := by rw [hg13]; exact hI
  have hgg7 : ∀ i, i < 57 → g13 i = g12 i := fun i hi => by rw [hg13, va_up_ne _ _ (by omega)]
  have m_22 : g13 50 = .inr (4, [.ref (ad7 51), .ref (ad7 52), .ref (ad7 53), .int (bI false), .int (bI false), .int (nI 0), .ref (ad7 55), .ref (ad7 56), .null, .int (nI 0), .int (nI 0), .int (nI 0), .int (nI 0), .int (nI 0)]) := by rw [hgg7 _ (by omega), hag7 51 (by omega), hag7 52 (by omega), hag7 53 (by omega), hag7 55 (by omega), hag7 56 (by omega)]; exact m_22
  have m_23 : g13 51 = .inl (k.2.1.1, 32, .inl (fun j => nI (chF j false))) := by rw [hgg7 _ (by omega)]; exact m_23
  have m_24 : g13 52 = .inl (k.2.1.1, 32, .inl (fun j => nI (chF j true))) := by rw [hgg7 _ (by omega)]; exact m_24
  have m_25 : g13 53 = .inl (k.2.1.2.2.2, 1, .inr (.inr (.inr (.inr (va_up (fun _ => none) 0 (some (ad4 54))))))) := by rw [hgg7 _ (by omega)]; exact m_25
  have m_26 : g13 54 = .inl (k.2.1.1, 0, .inl (fun _ => nI 0)) := by rw [hgg7 _ (by omega)]; exact m_26
  have m_27 : g13 55 = .inl (k.2.1.1, 16, .inl (fun _ => nI 0)) := by rw [hgg7 _ (by omega)]; exact m_27
  have m_28 : g13 56 = .inl (k.2.1.1, 16, .inl (fun _ => nI 0)) := by rw [hgg7 _ (by omega)]; exact m_28
  have hl : lv_has ls 1 [(0, .ref (ad7 50))] := by rw [hag7 50 (by omega)]; exact hl
  have hG0 : ∀ i, i < 50 → g13 i = g i := fun i hi => (hgg7 i (by omega)).trans (hG0 i hi)
  have hA0 : ∀ i, i < 51 → ad7 i = ad i := fun i hi => (hag7 i (by omega)).trans (hA0 i hi)
  have hnw7 : g13 57 = .inl (k.2.1.1, 0, .inl (fun _ => nI 0)) := by rw [hg13, va_up_self]
  refine m_stk (show ([.ref (ad7 57), .ref (ad6 50)] : List Value) = [.ref (ad7 57), .ref (ad7 50)] from by rw [hag7 50 (by omega)]) ?_
  refine m_put (ci := 4) (C := RX4) (T := TX4) (N' := 14) (ty := .array .int) hx hb hts (by decide +kernel) tyX4 tyX4_ok nmX4 hown hE hI 50 (by omega) m_22 rfl 8 (by decide) (hts (.fieldLink RX4 33 "TapePrinterLaw$Sim" "tape" "[I") (by decide +kernel)) rfl (by decide +kernel) rfl rfl (Nat.le_of_ble_eq_true rfl) dX4_init_54 (fun H locs hI => ?_)
  obtain ⟨g14, hg14⟩ : ∃ zz, zz = va_up g13 50 (.inr (4, [.ref (ad7 51), .ref (ad7 52), .ref (ad7 53), .int (bI false), .int (bI false), .int (nI 0), .ref (ad7 55), .ref (ad7 56), .ref (ad7 57), .int (nI 0), .int (nI 0), .int (nI 0), .int (nI 0), .int (nI 0)])) := ⟨_, rfl⟩
  replace hI : mI k ad7 58 g14 (mA ad 51 s.heap.size) s H locs := by rw [hg14]; exact hI
  have m_29 : g14 50 = .inr (4, [.ref (ad7 51), .ref (ad7 52), .ref (ad7 53), .int (bI false), .int (bI false), .int (nI 0), .ref (ad7 55), .ref (ad7 56), .ref (ad7 57), .int (nI 0), .int (nI 0), .int (nI 0), .int (nI 0), .int (nI 0)]) := by rw [hg14, va_up_self]
  have m_30 : g14 51 = .inl (k.2.1.1, 32, .inl (fun j => nI (chF j false))) := by rw [hg14, va_up_ne _ _ (by omega)]; exact m_23
  have m_31 : g14 52 = .inl (k.2.1.1, 32, .inl (fun j => nI (chF j true))) := by rw [hg14, va_up_ne _ _ (by omega)]; exact m_24
  have m_32 : g14 53 = .inl (k.2.1.2.2.2, 1, .inr (.inr (.inr (.inr (va_up (fun _ => none) 0 (some (ad4 54))))))) := by rw [hg14, va_up_ne _ _ (by omega)]; exact m_25
  have m_33 : g14 54 = .inl (k.2.1.1, 0, .inl (fun _ => nI 0)) := by rw [hg14, va_up_ne _ _ (by omega)]; exact m_26
  have m_34 : g14 55 = .inl (k.2.1.1, 16, .inl (fun _ => nI 0)) := by rw [hg14, va_up_ne _ _ (by omega)]; exact m_27
  have m_35 : g14 56 = .inl (k.2.1.1, 16, .inl (fun _ => nI 0)) := by rw [hg14, va_up_ne _ _ (by omega)]; exact m_28
  have m_36 : g14 57 = .inl (k.2.1.1, 0, .inl (fun _ => nI 0)) := by rw [hg14, va_up_ne _ _ (by omega)]; exact hnw7
  have hG0 : ∀ i, i < 50 → g14 i = g i := fun i hi => by rw [hg14, va_up_ne _ _ (by omega)]; exact hG0 i hi
  replace hI := m_fni hI 54 (by omega) (fun i => nI ((fun _ _ => 0 : Nat → Nat → Nat) 0 i)) m_33 (fun j hj => absurd hj (Nat.not_lt_zero _))
  replace hI := m_fnq hI 53 (by omega) (fun j => if j < 1 then some (ad7 54) else none) (by rw [va_up_ne _ _ (by omega)]; exact m_32) (fun j hj => by rw [show j = 0 by omega, va_up_self, if_pos (show 0 < 1 by omega), hag7 54 (by omega), hag6 54 (by omega), hag5 54 (by omega)])
  obtain ⟨G, hG⟩ : ∃ zz, zz = va_up (va_up g14 54 (.inl (k.2.1.1, 0, .inl (fun i => nI ((fun _ _ => 0 : Nat → Nat → Nat) 0 i))))) 53 (.inl (k.2.1.2.2.2, 1, .inr (.inr (.inr (.inr (fun j => if j < 1 then some (ad7 54) else none)))))) := ⟨_, rfl⟩
  rw [← hG] at hI
  have x54 : G 54 = .inl (k.2.1.1, 0, .inl (fun i => nI ((fun _ _ => 0 : Nat → Nat → Nat) 0 i))) := by rw [hG, va_up_ne _ _ (by omega), va_up_self]
  have x53 : G 53 = .inl (k.2.1.2.2.2, 1, .inr (.inr (.inr (.inr (fun j => if j < 1 then some (ad7 54) else none))))) := by rw [hG, va_up_self]
  have gx : ∀ i, i ≠ 53 → i ≠ 54 → G i = g14 i := fun i a1 a2 => by rw [hG, va_up_ne _ _ a1, va_up_ne _ _ a2]
  obtain ⟨rh, hrh⟩ : ∃ zz : Nat → Nat, zz = fun i => if i = 54 then 55 else if i = 55 then 56 else if i = 56 then 57 else if i = 57 then 54 else i := ⟨_, rfl⟩
  have r54 : rh 54 = 55 := by rw [hrh]; rfl
  have r55 : rh 55 = 56 := by rw [hrh]; rfl
  have r56 : rh 56 = 57 := by rw [hrh]; rfl
  have r57 : rh 57 = 54 := by rw [hrh]; rfl
  have rlo : ∀ i, i < 54 → rh i = i := fun i hi => by rw [hrh]; show (if i = 54 then 55 else if i = 55 then 56 else if i = 56 then 57 else if i = 57 then 54 else i) = i; rw [if_neg (by omega), if_neg (by omega), if_neg (by omega), if_neg (by omega)]
  obtain ⟨hE, hI⟩ := m_re (fun i => ad7 (rh i)) 58 (fun i => G (rh i)) rh hE hI (fun i hi => ⟨by rw [hrh]; show (if i = 54 then 55 else if i = 55 then 56 else if i = 56 then 57 else if i = 57 then 54 else i) < 58; (repeat' split) <;> omega, rfl, rfl⟩) (fun i j hi hj h => by
    rw [hrh] at h
    replace h : (if i = 54 then 55 else if i = 55 then 56 else if i = 56 then 57 else if i = 57 then 54 else i) = (if j = 54 then 55 else if j = 55 then 56 else if j = 56 then 57 else if j = 57 then 54 else j) := h
    (repeat' split at h) <;> omega)
  have hS : SR k (fun i => ad7 (rh i)) 57 58 (fun i => G (rh i)) false 0 0 0 (fun _ => nI 0) (fun _ => 0) (fun _ => 0) (0, nI 0, nI 0, nI 0, false, 1, (fun _ => 0), (fun _ _ => 0)) := by
    refine ⟨⟨Nat.le_refl _, Nat.le_refl _⟩, ?_, ?_, ?_, ?_, ?_, ?_, ?_, fun l hl => ?_⟩
    · show G (rh 50) = .inr (4, [.ref (ad7 (rh 51)), .ref (ad7 (rh 52)), .ref (ad7 (rh 53)), .int (bI false), .int (bI false), .int (nI 0), .ref (ad7 (rh 54)), .ref (ad7 (rh 55)), .ref (ad7 (rh 56)), .int (nI 0), .int (nI 0), .int (nI 0), .int (nI 0), .int (nI 0)])
      rw [rlo 50 (by omega), rlo 51 (by omega), rlo 52 (by omega), rlo 53 (by omega), r54, r55, r56, gx 50 (by omega) (by omega)]; exact m_29
    · show G (rh 51) = _
      rw [rlo 51 (by omega), gx 51 (by omega) (by omega)]; exact m_30
    · show G (rh 52) = _
      rw [rlo 52 (by omega), gx 52 (by omega) (by omega)]; exact m_31
    · show G (rh 53) = .inl (k.2.1.2.2.2, 1, .inr (.inr (.inr (.inr (pgF (fun i => ad7 (rh i)) 57 1)))))
      rw [rlo 53 (by omega), x53]
      have e1 : (fun j => if j < 1 then some (ad7 54) else none) = pgF (fun i => ad7 (rh i)) 57 1 := by
        funext j
        unfold pgF
        by_cases hj : j < 1
        · rw [if_pos hj, if_pos hj, show j = 0 by omega]; show some (ad7 54) = some (ad7 (rh 57)); rw [r57]
        · rw [if_neg hj, if_neg hj]
      rw [e1]
    · show G (rh 54) = _
      rw [r54, gx 55 (by omega) (by omega)]; exact m_34
    · show G (rh 55) = _
      rw [r55, gx 56 (by omega) (by omega)]; exact m_35
    · show G (rh 56) = _
      rw [r56, gx 57 (by omega) (by omega)]; exact m_36
    · have hl : l < 1 := hl
      rw [show l = 0 by omega]
      show G (rh 57) = _
      rw [r57, x54]
  have hA1 : ∀ i, i < 51 → ad7 (rh i) = ad i := fun i hi => by rw [rlo i (by omega)]; exact hA0 i hi
  have hG1 : ∀ i, i < 50 → G (rh i) = g i := fun i hi => by rw [rlo i (by omega), gx i (by omega) (by omega)]; exact hG0 i hi
  exact m_gvret hx hb hr hlocks hE hI (post := fun (ad1 : Nat → Nat) (N1 : Nat) (g1 : Nat → va_E) => (∀ i, i < 51 → ad1 i = ad i) ∧ (∀ i, i < 50 → g1 i = g i) ∧ N1 = 58 ∧ SR k ad1 57 N1 g1 false 0 0 0 (fun _ => nI 0) (fun _ => 0) (fun _ => 0) (0, nI 0, nI 0, nI 0, false, 1, (fun _ => 0), (fun _ _ => 0))) (⟨hA1, hG1, rfl, hS⟩) (by omega) (by omega) dX4_init_57
set_option maxHeartbeats 8000000 in
set_option maxRecDepth 100000 in
theorem c_X4_come (k : mC) (l : Launch) (ad : Nat → Nat) (N : Nat) (g : Nat → va_E) (sz : Nat) (uns : Bool) (play rd n : Nat) (lat : Nat → Int32) (gar T : Nat → Nat) (came : Nat) (mis lost bel : Int32) (fig : Bool) (u : Nat) (ln : Nat → Nat) (pg : Nat → Nat → Nat) (bs : Nat) (co : Nat) (hp : play ≤ 9) (hlat : ∀ j, -9 ≤ lat j ∧ lat j ≤ 9) (hgar : ∀ j, j < 16 → gar j < 32) (hco : co < 32) (hcame : came < 2000000000) (hwf : sWf (u, ln, pg)) (hS : SR k ad bs N g uns play rd n lat gar T (came, mis, lost, bel, fig, u, ln, pg)) : mGi k l yX4_come wsX4_come { frames := 1, cells := 4, slots := 70, locals := 27 } ad N g sz 4 70 [.ref (ad 50), .int (nI co)] (fun (r : Int32) (ad1 : Nat → Nat) (N1 : Nat) (g1 : Nat → va_E) => r = nI (rdY play lat gar came co) ∧ FRA ad g bs ad1 g1 ∧ (∀ i, i < 50 → g1 i = g i) ∧ SR k ad1 bs N1 g1 uns play rd n lat gar T (yIn sNl sFull sAdd uns play lat gar co (came, mis, lost, bel, fig, u, ln, pg))) := by
  show Met l yX4_come wsX4_come { frames := 1, cells := 4, slots := 70, locals := 27 } (mPc k ad N g sz [.ref (ad 50), .int (nI co)]) (va_Qi (S := mU) (fun r w9 => (fun (r : Int32) (ad1 : Nat → Nat) (N1 : Nat) (g1 : Nat → va_E) => r = nI (rdY play lat gar came co) ∧ FRA ad g bs ad1 g1 ∧ (∀ i, i < 50 → g1 i = g i) ∧ SR k ad1 bs N1 g1 uns play rd n lat gar T (yIn sNl sFull sAdd uns play lat gar co (came, mis, lost, bel, fig, u, ln, pg))) r w9.1 w9.2.1 w9.2.2) (mBg k (mA ad N sz)) (mA ad N sz)) 4 70 (mA ad N sz)
  refine mOfG (Qc := fun z9 => va_Qi (S := mU) (fun r w9 => (fun (r : Int32) (ad1 : Nat → Nat) (N1 : Nat) (g1 : Nat → va_E) => r = nI (rdY play lat gar came co) ∧ FRA ad g bs ad1 g1 ∧ (∀ i, i < 50 → g1 i = g i) ∧ SR k ad1 bs N1 g1 uns play rd n lat gar T (yIn sNl sFull sAdd uns play lat gar co (came, mis, lost, bel, fig, u, ln, pg))) r w9.1 w9.2.1 w9.2.2) (mBg k (mA ad N z9)) (mA ad N z9)) (cc := cX4_come) (maxL := 6) (ret := (some .int)) (by decide) rfl (Nat.le_of_ble_eq_true rfl) ?_
  intro p e s m below meth c hx hb hr hts hown hlocks hml hin H locs hH hE hI ls hl
  have hl : lv_has ls 6 [(0, .ref (ad 50)), (1, .int (nI co))] := hl
  have hbs : 57 ≤ bs := hS.1.1
  have hNu : bs + u ≤ N := hS.1.2
  have hF : FRA ad g bs ad g := FRA.rf
  have hG0 : ∀ i, i < 50 → g i = g i := fun _ _ => rfl
  have hu0 : 0 < u := hwf.1
  have hu20 : u ≤ 20 := hwf.2.1
  have hln : ∀ l, l < u → ln l ≤ 40 := hwf.2.2
  have hll := hln (u - 1) (by omega)
  obtain ⟨aS, haS⟩ : ∃ zz, ad 50 = zz := ⟨_, rfl⟩
  have hl : lv_has ls 6 [(0, .ref aS), (1, .int (nI co))] := by rw [← haS]; exact hl
  refine lv_aload_n hx hb dX4_come_0 rfl (lv_at hl 0 rfl) ?_
  refine lv_iload_n hx hb dX4_come_1 rfl (lv_at hl 1 rfl) ?_
  refine lv_aload_n hx hb dX4_come_2 rfl (lv_at hl 0 rfl) ?_
  refine m_stk (show ([.ref aS, .int (nI co), .ref aS] : List Value) = [.ref (ad 50), .int (nI co), .ref aS] from by rw [haS]) ?_
  refine m_get (ci := 4) (C := RX4) (T := TX4) (N' := 14) hx hb hts (by decide +kernel) hown hE hI 50 (by omega) (show g 50 = .inr (4, [.ref (ad 51), .ref (ad 52), .ref (ad 53), .int (bI fig), .int (bI uns), .int (nI play), .ref (ad 54), .ref (ad 55), .ref (ad 56), .int (nI rd), .int (nI came), .int mis, .int lost, .int bel]) from hS.2.1) rfl 10 (by decide) (hts (.fieldLink RX4 44 "TapePrinterLaw$Sim" "came" "I") (by decide +kernel)) rfl dX4_come_3 ?_
  refine m_stk (show ([.int (nI came), .int (nI co), .ref aS] : List Value) = [.int (nI came), .int (nI co), .ref (ad 50)] from by rw [haS]) ?_
  refine m_callVri (As := [.int (nI co), .int (nI came)]) (rest := []) (c1 := 1) (s1 := 5) ⟨hx, hb, hml, hown, hts⟩ hE hI (c_X4_read k l ad N g _ uns play rd n lat gar T came mis lost bel fig u ln pg bs co hp hlat hgar hco hcame hS) (cwV 2 hts gX4_come_X4_read rfl rfl rfl (by decide +kernel) ⟨Nat.le_of_ble_eq_true rfl, Nat.le_of_ble_eq_true rfl⟩) (i := 50) (by omega) (show g 50 = .inr (4, [.ref (ad 51), .ref (ad 52), .ref (ad 53), .int (bI fig), .int (bI uns), .int (nI play), .ref (ad 54), .ref (ad 55), .ref (ad 56), .int (nI rd), .int (nI came), .int mis, .int lost, .int bel]) from hS.2.1) rfl rfl hl.1 rfl (Nat.le_of_ble_eq_true rfl) dX4_come_6 (by omega) (by omega) ⟨(by show _ ≤ 4; omega), (by show _ ≤ 70; omega)⟩ (m_deti (fun H locs hI => ?_))
  obtain ⟨t9, ht9⟩ : ∃ zz, zz = rdY play lat gar came co := ⟨_, rfl⟩
  refine m_top (show nI (rdY play lat gar came co) = nI t9 from by rw [ht9]) ?_
  have ht32 : t9 < 32 := by rw [ht9]; exact rdF_lt hco (hgar _ (Nat.mod_lt _ (by omega)))
  refine lv_istore_n (lv' := [(2, .int (nI t9)), (0, .ref aS), (1, .int (nI co))]) hx hb dX4_come_9 rfl hl (by decide) rfl (fun ls hl => ?_)
  refine lv_aload_n hx hb dX4_come_10 rfl (lv_at hl 1 rfl) ?_
  refine lv_dup hx hb dX4_come_11 rfl ?_
  refine m_stk (show ([.ref aS, .ref aS] : List Value) = [.ref (ad 50), .ref aS] from by rw [haS]) ?_
  refine m_get (ci := 4) (C := RX4) (T := TX4) (N' := 14) hx hb hts (by decide +kernel) hown hE hI 50 (by omega) (show g 50 = .inr (4, [.ref (ad 51), .ref (ad 52), .ref (ad 53), .int (bI fig), .int (bI uns), .int (nI play), .ref (ad 54), .ref (ad 55), .ref (ad 56), .int (nI rd), .int (nI came), .int mis, .int lost, .int bel]) from hS.2.1) rfl 10 (by decide) (hts (.fieldLink RX4 44 "TapePrinterLaw$Sim" "came" "I") (by decide +kernel)) rfl dX4_come_12 ?_
  refine lv_iconst (v := nI 1) hx hb dX4_come_15 (by decide) ?_
  refine m_iaddN hx hb dX4_come_16 ?_
  refine m_stk (show ([.int (nI (came + 1)), .ref aS] : List Value) = [.int (nI (came + 1)), .ref (ad 50)] from by rw [haS]) ?_
  refine m_put (ci := 4) (C := RX4) (T := TX4) (N' := 14) (ty := .int) hx hb hts (by decide +kernel) tyX4 tyX4_ok nmX4 hown hE hI 50 (by omega) (show g 50 = .inr (4, [.ref (ad 51), .ref (ad 52), .ref (ad 53), .int (bI fig), .int (bI uns), .int (nI play), .ref (ad 54), .ref (ad 55), .ref (ad 56), .int (nI rd), .int (nI came), .int mis, .int lost, .int bel]) from hS.2.1) rfl 10 (by decide) (hts (.fieldLink RX4 44 "TapePrinterLaw$Sim" "came" "I") (by decide +kernel)) rfl (by decide +kernel) rfl rfl (Nat.le_of_ble_eq_true rfl) dX4_come_17 (fun H locs hI => ?_)
  obtain ⟨g1, hg1⟩ : ∃ zz, zz = va_up g 50 (.inr (4, [.ref (ad 51), .ref (ad 52), .ref (ad 53), .int (bI fig), .int (bI uns), .int (nI play), .ref (ad 54), .ref (ad 55), .ref (ad 56), .int (nI rd), .int (nI (came + 1)), .int mis, .int lost, .int bel])) := ⟨_, rfl⟩
  replace hI : mI k ad N g1 (mA ad N s.heap.size) s H locs := by rw [hg1]; exact hI
  have hS : SR k ad bs N g1 uns play rd n lat gar T (came + 1, mis, lost, bel, fig, u, ln, pg) := by rw [hg1]; exact SR.obj hS
  have hF : FRA ad g bs ad g1 := by rw [hg1]; exact FRA.up hF (by omega)
  have hG0 : ∀ i, i < 50 → g1 i = g i := fun i hi => by rw [hg1]; exact (va_up_ne _ _ (by omega)).trans (hG0 i hi)
  refine lv_iload_n hx hb dX4_come_20 rfl (lv_at hl 0 rfl) ?_
  refine lv_iload_n hx hb dX4_come_21 rfl (lv_at hl 2 rfl) ?_
  refine m_ceqN (tgt := 35) hx hb (by omega) (by omega) dX4_come_22 (by decide) (fun c_22 => ?_) (fun c_22 => ?_)
  · refine lv_iload_n hx hb dX4_come_35 rfl (lv_at hl 0 rfl) ?_
    refine lv_bipush (v := nI 8) hx hb dX4_come_36 (by decide) ?_
    refine m_cneN (tgt := 51) hx hb (by omega) (by omega) dX4_come_38 (by decide) (fun c_38 => ?_) (fun c_38 => ?_)
    · refine lv_iload_n hx hb dX4_come_51 rfl (lv_at hl 0 rfl) ?_
      refine lv_iconst (v := nI 2) hx hb dX4_come_52 (by decide) ?_
      refine m_cneN (tgt := 145) hx hb (by omega) (by omega) dX4_come_53 (by decide) (fun c_53 => ?_) (fun c_53 => ?_)
      · refine m_via hI 167 ([.int (nI (chF t9 fig))]) (fun K => ?_) (fun H locs hI => ?_)
        · refine lv_aload_n hx hb dX4_come_145 rfl (lv_at hl 1 rfl) ?_
          refine m_stk (show ([.ref aS] : List Value) = [.ref (ad 50)] from by rw [haS]) ?_
          refine m_get (ci := 4) (C := RX4) (T := TX4) (N' := 14) hx hb hts (by decide +kernel) hown hE hI 50 (by omega) (show g1 50 = .inr (4, [.ref (ad 51), .ref (ad 52), .ref (ad 53), .int (bI fig), .int (bI uns), .int (nI play), .ref (ad 54), .ref (ad 55), .ref (ad 56), .int (nI rd), .int (nI (came + 1)), .int mis, .int lost, .int bel]) from hS.2.1) rfl 3 (by decide) (hts (.fieldLink RX4 57 "TapePrinterLaw$Sim" "isFigures" "Z") (by decide +kernel)) rfl dX4_come_146 ?_
          refine m_zeqB (tgt := 161) hx hb dX4_come_149 (by decide) (fun c_149 => ?_) (fun c_149 => ?_)
          · refine lv_aload_n hx hb dX4_come_161 rfl (lv_at hl 1 rfl) ?_
            refine m_stk (show ([.ref aS] : List Value) = [.ref (ad 50)] from by rw [haS]) ?_
            refine m_get (ci := 4) (C := RX4) (T := TX4) (N' := 14) hx hb hts (by decide +kernel) hown hE hI 50 (by omega) (show g1 50 = .inr (4, [.ref (ad 51), .ref (ad 52), .ref (ad 53), .int (bI fig), .int (bI uns), .int (nI play), .ref (ad 54), .ref (ad 55), .ref (ad 56), .int (nI rd), .int (nI (came + 1)), .int mis, .int lost, .int bel]) from hS.2.1) rfl 0 (by decide) (hts (.fieldLink RX4 13 "TapePrinterLaw$Sim" "letters" "[I") (by decide +kernel)) rfl dX4_come_162 ?_
            refine lv_iload_n hx hb dX4_come_165 rfl (lv_at hl 0 rfl) ?_
            refine m_iald hx hb hE hI 51 (by omega) (j := t9) (show g1 51 = .inl (k.2.1.1, 32, .inl (fun j => nI (chF j false))) from hS.2.2.1) (by omega) (by omega) dX4_come_166 ?_
            refine m_top (show (fun j => nI (chF j false)) t9 = nI (chF t9 false) from rfl) ?_
            refine m_top (show nI (chF t9 false) = nI (chF t9 fig) from by rw [c_149]) ?_
            exact K H locs hI
          · refine lv_aload_n hx hb dX4_come_152 rfl (lv_at hl 1 rfl) ?_
            refine m_stk (show ([.ref aS] : List Value) = [.ref (ad 50)] from by rw [haS]) ?_
            refine m_get (ci := 4) (C := RX4) (T := TX4) (N' := 14) hx hb hts (by decide +kernel) hown hE hI 50 (by omega) (show g1 50 = .inr (4, [.ref (ad 51), .ref (ad 52), .ref (ad 53), .int (bI fig), .int (bI uns), .int (nI play), .ref (ad 54), .ref (ad 55), .ref (ad 56), .int (nI rd), .int (nI (came + 1)), .int mis, .int lost, .int bel]) from hS.2.1) rfl 1 (by decide) (hts (.fieldLink RX4 19 "TapePrinterLaw$Sim" "figures" "[I") (by decide +kernel)) rfl dX4_come_153 ?_
            refine lv_iload_n hx hb dX4_come_156 rfl (lv_at hl 0 rfl) ?_
            refine m_iald hx hb hE hI 52 (by omega) (j := t9) (show g1 52 = .inl (k.2.1.1, 32, .inl (fun j => nI (chF j true))) from hS.2.2.2.1) (by omega) (by omega) dX4_come_157 ?_
            refine m_top (show (fun j => nI (chF j true)) t9 = nI (chF t9 true) from rfl) ?_
            refine lv_goto (tgt := 167) hx hb dX4_come_158 (by decide) ?_
            refine m_top (show nI (chF t9 true) = nI (chF t9 fig) from by rw [c_149]) ?_
            exact K H locs hI
        have hch := chF_le t9 ht32 fig
        have h54 : chF t9 fig ≠ 54 := chF_54 t9 ht32 c_53 fig
        refine lv_istore_n (lv' := [(3, .int (nI (chF t9 fig))), (2, .int (nI t9)), (0, .ref aS), (1, .int (nI co))]) hx hb dX4_come_167 rfl hl (by decide) rfl (fun ls hl => ?_)
        refine lv_iload_n hx hb dX4_come_168 rfl (lv_at hl 0 rfl) ?_
        refine m_zleN (tgt := 230) hx hb (by omega) dX4_come_169 (by decide) (fun c_169 => ?_) (fun c_169 => ?_)
        · refine lv_aload_n hx hb dX4_come_230 rfl (lv_at hl 2 rfl) ?_
          refine lv_aload_n hx hb dX4_come_231 rfl (lv_at hl 2 rfl) ?_
          refine lv_aload_n hx hb dX4_come_232 rfl (lv_at hl 2 rfl) ?_
          refine m_stk (show ([.ref aS, .ref aS, .ref aS] : List Value) = [.ref (ad 50), .ref aS, .ref aS] from by rw [haS]) ?_
          refine m_get (ci := 4) (C := RX4) (T := TX4) (N' := 14) hx hb hts (by decide +kernel) hown hE hI 50 (by omega) (show g1 50 = .inr (4, [.ref (ad 51), .ref (ad 52), .ref (ad 53), .int (bI fig), .int (bI uns), .int (nI play), .ref (ad 54), .ref (ad 55), .ref (ad 56), .int (nI rd), .int (nI (came + 1)), .int mis, .int lost, .int bel]) from hS.2.1) rfl 3 (by decide) (hts (.fieldLink RX4 57 "TapePrinterLaw$Sim" "isFigures" "Z") (by decide +kernel)) rfl dX4_come_233 ?_
          refine lv_iload_n hx hb dX4_come_236 rfl (lv_at hl 1 rfl) ?_
          refine m_stk (show ([.int (nI t9), .int (bI fig), .ref aS, .ref aS] : List Value) = [.int (nI t9), .int (bI fig), .ref (ad 50), .ref aS] from by rw [haS]) ?_
          refine m_callVi (As := [.int (bI fig), .int (nI t9)]) (rest := [.ref aS]) ⟨hx, hb, hml, hown, hts⟩ hE hI (c_X4_after k l ad N g1 _ uns play rd n lat gar T (came + 1) mis lost bel fig u ln pg bs fig t9 (by omega) hS) (cwV 2 hts gX4_come_X4_after rfl rfl rfl (by decide +kernel) ⟨Nat.le_of_ble_eq_true rfl, Nat.le_of_ble_eq_true rfl⟩) (i := 50) (by omega) (show g1 50 = .inr (4, [.ref (ad 51), .ref (ad 52), .ref (ad 53), .int (bI fig), .int (bI uns), .int (nI play), .ref (ad 54), .ref (ad 55), .ref (ad 56), .int (nI rd), .int (nI (came + 1)), .int mis, .int lost, .int bel]) from hS.2.1) rfl rfl hl.1 rfl (Nat.le_of_ble_eq_true rfl) dX4_come_237 ⟨(by show _ ≤ 4; omega), (by show _ ≤ 70; omega)⟩ (m_deti (fun H locs hI => ?_))
          refine m_stk (show ([.int (bI (fb uns t9 fig)), .ref aS] : List Value) = [.int (bI (fb uns t9 fig)), .ref (ad 50)] from by rw [haS]) ?_
          refine m_put (ci := 4) (C := RX4) (T := TX4) (N' := 14) (ty := .boolean) hx hb hts (by decide +kernel) tyX4 tyX4_ok nmX4 hown hE hI 50 (by omega) (show g1 50 = .inr (4, [.ref (ad 51), .ref (ad 52), .ref (ad 53), .int (bI fig), .int (bI uns), .int (nI play), .ref (ad 54), .ref (ad 55), .ref (ad 56), .int (nI rd), .int (nI (came + 1)), .int mis, .int lost, .int bel]) from hS.2.1) rfl 3 (by decide) (hts (.fieldLink RX4 57 "TapePrinterLaw$Sim" "isFigures" "Z") (by decide +kernel)) rfl (by decide +kernel) (bI_nar _) (bI_fit _) (Nat.le_of_ble_eq_true rfl) dX4_come_240 (fun H locs hI => ?_)
          obtain ⟨g2, hg2⟩ : ∃ zz, zz = va_up g1 50 (.inr (4, [.ref (ad 51), .ref (ad 52), .ref (ad 53), .int (bI (fb uns t9 fig)), .int (bI uns), .int (nI play), .ref (ad 54), .ref (ad 55), .ref (ad 56), .int (nI rd), .int (nI (came + 1)), .int mis, .int lost, .int bel])) := ⟨_, rfl⟩
          replace hI : mI k ad N g2 (mA ad N s.heap.size) s H locs := by rw [hg2]; exact hI
          have hS : SR k ad bs N g2 uns play rd n lat gar T (came + 1, mis, lost, bel, fb uns t9 fig, u, ln, pg) := by rw [hg2]; exact SR.obj hS
          have hF : FRA ad g bs ad g2 := by rw [hg2]; exact FRA.up hF (by omega)
          have hG0 : ∀ i, i < 50 → g2 i = g i := fun i hi => by rw [hg2]; exact (va_up_ne _ _ (by omega)).trans (hG0 i hi)
          refine lv_iload_n hx hb dX4_come_243 rfl (lv_at hl 1 rfl) ?_
          have hl9 : lOb sFull (chF t9 fig) (u, ln, pg) lost = lost := by unfold lOb; rw [if_neg h54, if_pos c_169]
          have hp9 : pOb sNl sFull sAdd (chF t9 fig) (u, ln, pg) = (u, ln, pg) := by unfold pOb; rw [if_neg h54, if_pos c_169]
          have hy : yIn sNl sFull sAdd uns play lat gar co (came, mis, lost, bel, fig, u, ln, pg) = (came + 1, mis, lost, bel, fb uns t9 fig, (u, ln, pg)) := by
            show (came + 1, (if rdY play lat gar came co = co then mis else mis + 1), lOb sFull (chF (rdY play lat gar came co) fig) (u, ln, pg) lost, (if rdY play lat gar came co = 8 then bel + 1 else bel), fb uns (rdY play lat gar came co) fig, pOb sNl sFull sAdd (chF (rdY play lat gar came co) fig) (u, ln, pg)) = _
            rw [← ht9, if_pos c_22, if_neg c_38, hl9, hp9]
          exact m_giret hx hb hr hlocks hE hI (post := fun (r : Int32) (ad1 : Nat → Nat) (N1 : Nat) (g1 : Nat → va_E) => r = nI (rdY play lat gar came co) ∧ FRA ad g bs ad1 g1 ∧ (∀ i, i < 50 → g1 i = g i) ∧ SR k ad1 bs N1 g1 uns play rd n lat gar T (yIn sNl sFull sAdd uns play lat gar co (came, mis, lost, bel, fig, u, ln, pg))) (v := nI t9) (⟨by rw [ht9], hF, hG0, by rw [hy]; exact hS⟩) (by omega) (by omega) dX4_come_244
        · refine lv_iload_n hx hb dX4_come_172 rfl (lv_at hl 1 rfl) ?_
          refine lv_iconst (v := nI 2) hx hb dX4_come_173 (by decide) ?_
          refine m_ceqN (tgt := 230) hx hb (by omega) (by omega) dX4_come_174 (by decide) (fun c_174 => ?_) (fun c_174 => ?_)
          · exact (show False by omega).elim
          · refine lv_aload_n hx hb dX4_come_177 rfl (lv_at hl 2 rfl) ?_
            refine m_stk (show ([.ref aS] : List Value) = [.ref (ad 50)] from by rw [haS]) ?_
            refine m_get (ci := 4) (C := RX4) (T := TX4) (N' := 14) hx hb hts (by decide +kernel) hown hE hI 50 (by omega) (show g1 50 = .inr (4, [.ref (ad 51), .ref (ad 52), .ref (ad 53), .int (bI fig), .int (bI uns), .int (nI play), .ref (ad 54), .ref (ad 55), .ref (ad 56), .int (nI rd), .int (nI (came + 1)), .int mis, .int lost, .int bel]) from hS.2.1) rfl 2 (by decide) (hts (.fieldLink RX4 23 "TapePrinterLaw$Sim" "page" "[[I") (by decide +kernel)) rfl dX4_come_178 ?_
            refine m_alen2 hx hb hE hI 53 (by omega) (show g1 53 = .inl (k.2.1.2.2.2, u, .inr (.inr (.inr (.inr (pgF ad bs u))))) from hS.2.2.2.2.1) dX4_come_181 ?_
            refine lv_iconst (v := nI 1) hx hb dX4_come_182 (by decide) ?_
            refine m_isubN hx hb (by omega) dX4_come_183 ?_
            refine lv_istore (lv' := [(4, .int (nI (u - 1))), (3, .int (nI (chF t9 fig))), (2, .int (nI t9)), (0, .ref aS), (1, .int (nI co))]) hx hb dX4_come_184 hl (by decide) rfl (fun ls hl => ?_)
            refine lv_aload_n hx hb dX4_come_186 rfl (lv_at hl 3 rfl) ?_
            refine m_stk (show ([.ref aS] : List Value) = [.ref (ad 50)] from by rw [haS]) ?_
            refine m_get (ci := 4) (C := RX4) (T := TX4) (N' := 14) hx hb hts (by decide +kernel) hown hE hI 50 (by omega) (show g1 50 = .inr (4, [.ref (ad 51), .ref (ad 52), .ref (ad 53), .int (bI fig), .int (bI uns), .int (nI play), .ref (ad 54), .ref (ad 55), .ref (ad 56), .int (nI rd), .int (nI (came + 1)), .int mis, .int lost, .int bel]) from hS.2.1) rfl 2 (by decide) (hts (.fieldLink RX4 23 "TapePrinterLaw$Sim" "page" "[[I") (by decide +kernel)) rfl dX4_come_187 ?_
            refine lv_iload hx hb dX4_come_190 (lv_at hl 0 rfl) ?_
            refine m_ald2 hx hb hE hI 53 (by omega) (j := u - 1) (show g1 53 = .inl (k.2.1.2.2.2, u, .inr (.inr (.inr (.inr (pgF ad bs u))))) from hS.2.2.2.2.1) (by omega) (by omega) dX4_come_192 ?_
            refine m_rf (pgF_in (by omega)) ?_
            have pr_1 : g1 (bs + (u - 1)) = .inl (k.2.1.1, ln (u - 1), .inl (fun i => nI (pg (u - 1) i))) := hS.2.2.2.2.2.2.2.2 (u - 1) (show u - 1 < u by omega)
            refine m_aleni hx hb hE hI (bs + (u - 1)) (by omega) pr_1 dX4_come_193 ?_
            refine lv_bipush (v := nI 40) hx hb dX4_come_194 (by decide) ?_
            refine m_cneN (tgt := 212) hx hb (by omega) (by omega) dX4_come_196 (by decide) (fun c_196 => ?_) (fun c_196 => ?_)
            · refine lv_aload_n hx hb dX4_come_212 rfl (lv_at hl 3 rfl) ?_
              refine m_stk (show ([.ref aS] : List Value) = [.ref (ad 50)] from by rw [haS]) ?_
              refine m_get (ci := 4) (C := RX4) (T := TX4) (N' := 14) hx hb hts (by decide +kernel) hown hE hI 50 (by omega) (show g1 50 = .inr (4, [.ref (ad 51), .ref (ad 52), .ref (ad 53), .int (bI fig), .int (bI uns), .int (nI play), .ref (ad 54), .ref (ad 55), .ref (ad 56), .int (nI rd), .int (nI (came + 1)), .int mis, .int lost, .int bel]) from hS.2.1) rfl 2 (by decide) (hts (.fieldLink RX4 23 "TapePrinterLaw$Sim" "page" "[[I") (by decide +kernel)) rfl dX4_come_213 ?_
              refine lv_iload hx hb dX4_come_216 (lv_at hl 0 rfl) ?_
              refine lv_aload_n hx hb dX4_come_218 rfl (lv_at hl 3 rfl) ?_
              refine m_stk (show ([.ref aS, .int (nI (u - 1)), .ref (ad 53)] : List Value) = [.ref (ad 50), .int (nI (u - 1)), .ref (ad 53)] from by rw [haS]) ?_
              refine m_get (ci := 4) (C := RX4) (T := TX4) (N' := 14) hx hb hts (by decide +kernel) hown hE hI 50 (by omega) (show g1 50 = .inr (4, [.ref (ad 51), .ref (ad 52), .ref (ad 53), .int (bI fig), .int (bI uns), .int (nI play), .ref (ad 54), .ref (ad 55), .ref (ad 56), .int (nI rd), .int (nI (came + 1)), .int mis, .int lost, .int bel]) from hS.2.1) rfl 2 (by decide) (hts (.fieldLink RX4 23 "TapePrinterLaw$Sim" "page" "[[I") (by decide +kernel)) rfl dX4_come_219 ?_
              refine lv_iload hx hb dX4_come_222 (lv_at hl 0 rfl) ?_
              refine m_ald2 hx hb hE hI 53 (by omega) (j := u - 1) (show g1 53 = .inl (k.2.1.2.2.2, u, .inr (.inr (.inr (.inr (pgF ad bs u))))) from hS.2.2.2.2.1) (by omega) (by omega) dX4_come_224 ?_
              refine m_rf (pgF_in (by omega)) ?_
              have pr_2 : g1 (bs + (u - 1)) = .inl (k.2.1.1, ln (u - 1), .inl (fun i => nI (pg (u - 1) i))) := hS.2.2.2.2.2.2.2.2 (u - 1) (show u - 1 < u by omega)
              refine lv_iload_n hx hb dX4_come_225 rfl (lv_at hl 1 rfl) ?_
              refine m_callSgq (As := [.ref (ad (bs + (u - 1))), .int (nI (chF t9 fig))]) (rest := [.int (nI (u - 1)), .ref (ad 53)]) (c1 := 2) (s1 := 5 + ((ln (u - 1)) + 1)) ⟨hx, hb, hml, hown, hts⟩ hE hI (c_X4_more k l ad N g1 _ (bs + (u - 1)) (ln (u - 1)) (fun i => nI (pg (u - 1) i)) (fun i => nI (va_up (pg (u - 1)) (ln (u - 1)) (chF t9 fig) i)) (nI (chF t9 fig)) (by omega) (by omega) pr_2 (fun j hj => by rw [va_up_ne _ _ (by omega)]) (by rw [va_up_self])) (va_cwS 2 hts gX4_come_X4_more rfl rfl rfl (by decide +kernel) ⟨Nat.le_of_ble_eq_true rfl, Nat.le_of_ble_eq_true rfl⟩) rfl hl.1 rfl (Nat.le_of_ble_eq_true rfl) dX4_come_226 (by omega) (by omega) ⟨(by show _ ≤ 4; omega), (by show _ ≤ 70; omega)⟩ (fun r9 ad1 N1 g9 H locs hp hE hI => ?_)
              obtain ⟨g3, hg3⟩ : ∃ zz, zz = g9 := ⟨_, rfl⟩
              rw [← hg3] at hp hI
              obtain ⟨hr1, hn1, hag1, hgg1, hnw1⟩ := hp
              subst hn1
              have hE : mE k ad1 (N + 1) (mA ad N s.heap.size) s := hE
              have hI : mI k ad1 (N + 1) g3 (mA ad N s.heap.size) s H locs := hI
              subst hr1
              replace hgg1 : ∀ i, i < N → g3 i = g1 i := hgg1
              have haS : ad1 50 = aS := by rw [hag1 50 (by omega)]; exact haS
              have hS : SR k ad1 bs (N + 1) g3 uns play rd n lat gar T (came + 1, mis, lost, bel, fig, u, ln, pg) := SR.grow hS (by omega) (fun i hi => hag1 i (by omega)) (fun i hi => hgg1 i (by omega))
              have hF : FRA ad g bs ad1 g3 := FRA.go hF (FRA.of (N := N) (by omega) (by omega) (fun i hi => hag1 i (by omega)) (fun i hi => hgg1 i (by omega)))
              have hG0 : ∀ i, i < 50 → g3 i = g i := fun i hi => (hgg1 i (by omega)).trans (hG0 i hi)
              have hnw1 : g3 N = .inl (k.2.1.1, ((ln (u - 1)) + 1), .inl (fun i => nI (va_up (pg (u - 1)) (ln (u - 1)) (chF t9 fig) i))) := hnw1
              show W p l e _ s m _ below meth c _ _ _ _ _ (F0 m _ _ (.ref (ad1 N) :: _))
              refine m_stk (show ([.ref (ad1 N), .int (nI (u - 1)), .ref (ad 53)] : List Value) = [.ref (ad1 N), .int (nI (u - 1)), .ref (ad1 53)] from by rw [hag1 53 (by omega)]) ?_
              refine m_ast2 hx hb hE hI 53 N (by omega) (by omega) (j := u - 1) (show g3 53 = .inl (k.2.1.2.2.2, u, .inr (.inr (.inr (.inr (pgF ad1 bs u))))) from hS.2.2.2.2.1) hnw1 (by omega) (by omega) dX4_come_229 (fun H locs hI => ?_)
              obtain ⟨adP, gP, hE, hI, hFP, hGP, hS⟩ := SR.row N (chF t9 fig) hE hI hS hu0 (by omega) hnw1
              obtain ⟨g4, hg4⟩ : ∃ zz, zz = gP := ⟨_, rfl⟩
              rw [← hg4] at hI hFP hGP hS
              have hE : mE k adP (bs + u) (mA ad N s.heap.size) s := hE
              have hI : mI k adP (bs + u) g4 (mA ad N s.heap.size) s H locs := hI
              have hS : SR k adP bs (bs + u) g4 uns play rd n lat gar T (came + 1, mis, lost, bel, fig, u, va_up ln (u - 1) (ln (u - 1) + 1), va_up pg (u - 1) (va_up (pg (u - 1)) (ln (u - 1)) (chF t9 fig))) := hS
              have hF : FRA ad g bs adP g4 := FRA.go hF hFP
              have hG0 : ∀ i, i < 50 → g4 i = g i := fun i hi => (hGP i hi).trans (hG0 i hi)
              have haS : adP 50 = aS := (hFP.1 50 (by omega)).trans haS
              have hl : lv_has ls 6 [(4, .int (nI (u - 1))), (3, .int (nI (chF t9 fig))), (2, .int (nI t9)), (0, .ref aS), (1, .int (nI co))] := lv_sub hl [0, 1, 2, 3, 4] rfl
              refine lv_aload_n hx hb dX4_come_230 rfl (lv_at hl 3 rfl) ?_
              refine lv_aload_n hx hb dX4_come_231 rfl (lv_at hl 3 rfl) ?_
              refine lv_aload_n hx hb dX4_come_232 rfl (lv_at hl 3 rfl) ?_
              refine m_stk (show ([.ref aS, .ref aS, .ref aS] : List Value) = [.ref (adP 50), .ref aS, .ref aS] from by rw [haS]) ?_
              refine m_get (ci := 4) (C := RX4) (T := TX4) (N' := 14) hx hb hts (by decide +kernel) hown hE hI 50 (by omega) (show g4 50 = .inr (4, [.ref (adP 51), .ref (adP 52), .ref (adP 53), .int (bI fig), .int (bI uns), .int (nI play), .ref (adP 54), .ref (adP 55), .ref (adP 56), .int (nI rd), .int (nI (came + 1)), .int mis, .int lost, .int bel]) from hS.2.1) rfl 3 (by decide) (hts (.fieldLink RX4 57 "TapePrinterLaw$Sim" "isFigures" "Z") (by decide +kernel)) rfl dX4_come_233 ?_
              refine lv_iload_n hx hb dX4_come_236 rfl (lv_at hl 2 rfl) ?_
              refine m_stk (show ([.int (nI t9), .int (bI fig), .ref aS, .ref aS] : List Value) = [.int (nI t9), .int (bI fig), .ref (adP 50), .ref aS] from by rw [haS]) ?_
              refine m_callVi (As := [.int (bI fig), .int (nI t9)]) (rest := [.ref aS]) ⟨hx, hb, hml, hown, hts⟩ hE hI (c_X4_after k l adP (bs + u) g4 _ uns play rd n lat gar T (came + 1) mis lost bel fig u (va_up ln (u - 1) (ln (u - 1) + 1)) (va_up pg (u - 1) (va_up (pg (u - 1)) (ln (u - 1)) (chF t9 fig))) bs fig t9 (by omega) hS) (cwV 2 hts gX4_come_X4_after rfl rfl rfl (by decide +kernel) ⟨Nat.le_of_ble_eq_true rfl, Nat.le_of_ble_eq_true rfl⟩) (i := 50) (by omega) (show g4 50 = .inr (4, [.ref (adP 51), .ref (adP 52), .ref (adP 53), .int (bI fig), .int (bI uns), .int (nI play), .ref (adP 54), .ref (adP 55), .ref (adP 56), .int (nI rd), .int (nI (came + 1)), .int mis, .int lost, .int bel]) from hS.2.1) rfl rfl hl.1 rfl (Nat.le_of_ble_eq_true rfl) dX4_come_237 ⟨(by show _ ≤ 4; omega), (by show _ ≤ 70; omega)⟩ (m_deti (fun H locs hI => ?_))
              refine m_stk (show ([.int (bI (fb uns t9 fig)), .ref aS] : List Value) = [.int (bI (fb uns t9 fig)), .ref (adP 50)] from by rw [haS]) ?_
              refine m_put (ci := 4) (C := RX4) (T := TX4) (N' := 14) (ty := .boolean) hx hb hts (by decide +kernel) tyX4 tyX4_ok nmX4 hown hE hI 50 (by omega) (show g4 50 = .inr (4, [.ref (adP 51), .ref (adP 52), .ref (adP 53), .int (bI fig), .int (bI uns), .int (nI play), .ref (adP 54), .ref (adP 55), .ref (adP 56), .int (nI rd), .int (nI (came + 1)), .int mis, .int lost, .int bel]) from hS.2.1) rfl 3 (by decide) (hts (.fieldLink RX4 57 "TapePrinterLaw$Sim" "isFigures" "Z") (by decide +kernel)) rfl (by decide +kernel) (bI_nar _) (bI_fit _) (Nat.le_of_ble_eq_true rfl) dX4_come_240 (fun H locs hI => ?_)
              obtain ⟨g5, hg5⟩ : ∃ zz, zz = va_up g4 50 (.inr (4, [.ref (adP 51), .ref (adP 52), .ref (adP 53), .int (bI (fb uns t9 fig)), .int (bI uns), .int (nI play), .ref (adP 54), .ref (adP 55), .ref (adP 56), .int (nI rd), .int (nI (came + 1)), .int mis, .int lost, .int bel])) := ⟨_, rfl⟩
              replace hI : mI k adP (bs + u) g5 (mA ad N s.heap.size) s H locs := by rw [hg5]; exact hI
              have hS : SR k adP bs (bs + u) g5 uns play rd n lat gar T (came + 1, mis, lost, bel, fb uns t9 fig, u, va_up ln (u - 1) (ln (u - 1) + 1), va_up pg (u - 1) (va_up (pg (u - 1)) (ln (u - 1)) (chF t9 fig))) := by rw [hg5]; exact SR.obj hS
              have hF : FRA ad g bs adP g5 := by rw [hg5]; exact FRA.up hF (by omega)
              have hG0 : ∀ i, i < 50 → g5 i = g i := fun i hi => by rw [hg5]; exact (va_up_ne _ _ (by omega)).trans (hG0 i hi)
              refine lv_iload_n hx hb dX4_come_243 rfl (lv_at hl 2 rfl) ?_
              have hfu : sFull (u, ln, pg) = false := decide_eq_false c_196
              have hl9 : lOb sFull (chF t9 fig) (u, ln, pg) lost = lost := by unfold lOb; rw [if_neg h54, if_neg (by omega), hfu] <;> rfl
              have hp9 : pOb sNl sFull sAdd (chF t9 fig) (u, ln, pg) = (u, va_up ln (u - 1) (ln (u - 1) + 1), va_up pg (u - 1) (va_up (pg (u - 1)) (ln (u - 1)) (chF t9 fig))) := by unfold pOb; rw [if_neg h54, if_neg (by omega), hfu] <;> rfl
              have hy : yIn sNl sFull sAdd uns play lat gar co (came, mis, lost, bel, fig, u, ln, pg) = (came + 1, mis, lost, bel, fb uns t9 fig, (u, va_up ln (u - 1) (ln (u - 1) + 1), va_up pg (u - 1) (va_up (pg (u - 1)) (ln (u - 1)) (chF t9 fig)))) := by
                show (came + 1, (if rdY play lat gar came co = co then mis else mis + 1), lOb sFull (chF (rdY play lat gar came co) fig) (u, ln, pg) lost, (if rdY play lat gar came co = 8 then bel + 1 else bel), fb uns (rdY play lat gar came co) fig, pOb sNl sFull sAdd (chF (rdY play lat gar came co) fig) (u, ln, pg)) = _
                rw [← ht9, if_pos c_22, if_neg c_38, hl9, hp9]
              exact m_giret hx hb hr hlocks hE hI (post := fun (r : Int32) (ad1 : Nat → Nat) (N1 : Nat) (g1 : Nat → va_E) => r = nI (rdY play lat gar came co) ∧ FRA ad g bs ad1 g1 ∧ (∀ i, i < 50 → g1 i = g i) ∧ SR k ad1 bs N1 g1 uns play rd n lat gar T (yIn sNl sFull sAdd uns play lat gar co (came, mis, lost, bel, fig, u, ln, pg))) (v := nI t9) (⟨by rw [ht9], hF, hG0, by rw [hy]; exact hS⟩) (by omega) (by omega) dX4_come_244
            · refine lv_aload_n hx hb dX4_come_199 rfl (lv_at hl 3 rfl) ?_
              refine lv_dup hx hb dX4_come_200 rfl ?_
              refine m_stk (show ([.ref aS, .ref aS] : List Value) = [.ref (ad 50), .ref aS] from by rw [haS]) ?_
              refine m_get (ci := 4) (C := RX4) (T := TX4) (N' := 14) hx hb hts (by decide +kernel) hown hE hI 50 (by omega) (show g1 50 = .inr (4, [.ref (ad 51), .ref (ad 52), .ref (ad 53), .int (bI fig), .int (bI uns), .int (nI play), .ref (ad 54), .ref (ad 55), .ref (ad 56), .int (nI rd), .int (nI (came + 1)), .int mis, .int lost, .int bel]) from hS.2.1) rfl 12 (by decide) (hts (.fieldLink RX4 60 "TapePrinterLaw$Sim" "lost" "I") (by decide +kernel)) rfl dX4_come_201 ?_
              refine lv_iconst (v := nI 1) hx hb dX4_come_204 (by decide) ?_
              refine lv_iadd hx hb dX4_come_205 ?_
              refine m_top (show lost + (nI 1) = lost + 1 from rfl) ?_
              refine m_stk (show ([.int (lost + 1), .ref aS] : List Value) = [.int (lost + 1), .ref (ad 50)] from by rw [haS]) ?_
              refine m_put (ci := 4) (C := RX4) (T := TX4) (N' := 14) (ty := .int) hx hb hts (by decide +kernel) tyX4 tyX4_ok nmX4 hown hE hI 50 (by omega) (show g1 50 = .inr (4, [.ref (ad 51), .ref (ad 52), .ref (ad 53), .int (bI fig), .int (bI uns), .int (nI play), .ref (ad 54), .ref (ad 55), .ref (ad 56), .int (nI rd), .int (nI (came + 1)), .int mis, .int lost, .int bel]) from hS.2.1) rfl 12 (by decide) (hts (.fieldLink RX4 60 "TapePrinterLaw$Sim" "lost" "I") (by decide +kernel)) rfl (by decide +kernel) rfl rfl (Nat.le_of_ble_eq_true rfl) dX4_come_206 (fun H locs hI => ?_)
              obtain ⟨g6, hg6⟩ : ∃ zz, zz = va_up g1 50 (.inr (4, [.ref (ad 51), .ref (ad 52), .ref (ad 53), .int (bI fig), .int (bI uns), .int (nI play), .ref (ad 54), .ref (ad 55), .ref (ad 56), .int (nI rd), .int (nI (came + 1)), .int mis, .int (lost + 1), .int bel])) := ⟨_, rfl⟩
              replace hI : mI k ad N g6 (mA ad N s.heap.size) s H locs := by rw [hg6]; exact hI
              have hS : SR k ad bs N g6 uns play rd n lat gar T (came + 1, mis, lost + 1, bel, fig, u, ln, pg) := by rw [hg6]; exact SR.obj hS
              have hF : FRA ad g bs ad g6 := by rw [hg6]; exact FRA.up hF (by omega)
              have hG0 : ∀ i, i < 50 → g6 i = g i := fun i hi => by rw [hg6]; exact (va_up_ne _ _ (by omega)).trans (hG0 i hi)
              refine lv_goto (tgt := 230) hx hb dX4_come_209 (by decide) ?_
              refine lv_aload_n hx hb dX4_come_230 rfl (lv_at hl 3 rfl) ?_
              refine lv_aload_n hx hb dX4_come_231 rfl (lv_at hl 3 rfl) ?_
              refine lv_aload_n hx hb dX4_come_232 rfl (lv_at hl 3 rfl) ?_
              refine m_stk (show ([.ref aS, .ref aS, .ref aS] : List Value) = [.ref (ad 50), .ref aS, .ref aS] from by rw [haS]) ?_
              refine m_get (ci := 4) (C := RX4) (T := TX4) (N' := 14) hx hb hts (by decide +kernel) hown hE hI 50 (by omega) (show g6 50 = .inr (4, [.ref (ad 51), .ref (ad 52), .ref (ad 53), .int (bI fig), .int (bI uns), .int (nI play), .ref (ad 54), .ref (ad 55), .ref (ad 56), .int (nI rd), .int (nI (came + 1)), .int mis, .int (lost + 1), .int bel]) from hS.2.1) rfl 3 (by decide) (hts (.fieldLink RX4 57 "TapePrinterLaw$Sim" "isFigures" "Z") (by decide +kernel)) rfl dX4_come_233 ?_
              refine lv_iload_n hx hb dX4_come_236 rfl (lv_at hl 2 rfl) ?_
              refine m_stk (show ([.int (nI t9), .int (bI fig), .ref aS, .ref aS] : List Value) = [.int (nI t9), .int (bI fig), .ref (ad 50), .ref aS] from by rw [haS]) ?_
              refine m_callVi (As := [.int (bI fig), .int (nI t9)]) (rest := [.ref aS]) ⟨hx, hb, hml, hown, hts⟩ hE hI (c_X4_after k l ad N g6 _ uns play rd n lat gar T (came + 1) mis (lost + 1) bel fig u ln pg bs fig t9 (by omega) hS) (cwV 2 hts gX4_come_X4_after rfl rfl rfl (by decide +kernel) ⟨Nat.le_of_ble_eq_true rfl, Nat.le_of_ble_eq_true rfl⟩) (i := 50) (by omega) (show g6 50 = .inr (4, [.ref (ad 51), .ref (ad 52), .ref (ad 53), .int (bI fig), .int (bI uns), .int (nI play), .ref (ad 54), .ref (ad 55), .ref (ad 56), .int (nI rd), .int (nI (came + 1)), .int mis, .int (lost + 1), .int bel]) from hS.2.1) rfl rfl hl.1 rfl (Nat.le_of_ble_eq_true rfl) dX4_come_237 ⟨(by show _ ≤ 4; omega), (by show _ ≤ 70; omega)⟩ (m_deti (fun H locs hI => ?_))
              refine m_stk (show ([.int (bI (fb uns t9 fig)), .ref aS] : List Value) = [.int (bI (fb uns t9 fig)), .ref (ad 50)] from by rw [haS]) ?_
              refine m_put (ci := 4) (C := RX4) (T := TX4) (N' := 14) (ty := .boolean) hx hb hts (by decide +kernel) tyX4 tyX4_ok nmX4 hown hE hI 50 (by omega) (show g6 50 = .inr (4, [.ref (ad 51), .ref (ad 52), .ref (ad 53), .int (bI fig), .int (bI uns), .int (nI play), .ref (ad 54), .ref (ad 55), .ref (ad 56), .int (nI rd), .int (nI (came + 1)), .int mis, .int (lost + 1), .int bel]) from hS.2.1) rfl 3 (by decide) (hts (.fieldLink RX4 57 "TapePrinterLaw$Sim" "isFigures" "Z") (by decide +kernel)) rfl (by decide +kernel) (bI_nar _) (bI_fit _) (Nat.le_of_ble_eq_true rfl) dX4_come_240 (fun H locs hI => ?_)
              obtain ⟨g7, hg7⟩ : ∃ zz, zz = va_up g6 50 (.inr (4, [.ref (ad 51), .ref (ad 52), .ref (ad 53), .int (bI (fb uns t9 fig)), .int (bI uns), .int (nI play), .ref (ad 54), .ref (ad 55), .ref (ad 56), .int (nI rd), .int (nI (came + 1)), .int mis, .int (lost + 1), .int bel])) := ⟨_, rfl⟩
              replace hI : mI k ad N g7 (mA ad N s.heap.size) s H locs := by rw [hg7]; exact hI
              have hS : SR k ad bs N g7 uns play rd n lat gar T (came + 1, mis, lost + 1, bel, fb uns t9 fig, u, ln, pg) := by rw [hg7]; exact SR.obj hS
              have hF : FRA ad g bs ad g7 := by rw [hg7]; exact FRA.up hF (by omega)
              have hG0 : ∀ i, i < 50 → g7 i = g i := fun i hi => by rw [hg7]; exact (va_up_ne _ _ (by omega)).trans (hG0 i hi)
              refine lv_iload_n hx hb dX4_come_243 rfl (lv_at hl 2 rfl) ?_
              have hfu : sFull (u, ln, pg) = true := decide_eq_true c_196
              have hl9 : lOb sFull (chF t9 fig) (u, ln, pg) lost = lost + 1 := by unfold lOb; rw [if_neg h54, if_neg (by omega), hfu] <;> rfl
              have hp9 : pOb sNl sFull sAdd (chF t9 fig) (u, ln, pg) = (u, ln, pg) := by unfold pOb; rw [if_neg h54, if_neg (by omega), hfu] <;> rfl
              have hy : yIn sNl sFull sAdd uns play lat gar co (came, mis, lost, bel, fig, u, ln, pg) = (came + 1, mis, lost + 1, bel, fb uns t9 fig, (u, ln, pg)) := by
                show (came + 1, (if rdY play lat gar came co = co then mis else mis + 1), lOb sFull (chF (rdY play lat gar came co) fig) (u, ln, pg) lost, (if rdY play lat gar came co = 8 then bel + 1 else bel), fb uns (rdY play lat gar came co) fig, pOb sNl sFull sAdd (chF (rdY play lat gar came co) fig) (u, ln, pg)) = _
                rw [← ht9, if_pos c_22, if_neg c_38, hl9, hp9]
              exact m_giret hx hb hr hlocks hE hI (post := fun (r : Int32) (ad1 : Nat → Nat) (N1 : Nat) (g1 : Nat → va_E) => r = nI (rdY play lat gar came co) ∧ FRA ad g bs ad1 g1 ∧ (∀ i, i < 50 → g1 i = g i) ∧ SR k ad1 bs N1 g1 uns play rd n lat gar T (yIn sNl sFull sAdd uns play lat gar co (came, mis, lost, bel, fig, u, ln, pg))) (v := nI t9) (⟨by rw [ht9], hF, hG0, by rw [hy]; exact hS⟩) (by omega) (by omega) dX4_come_244
      · refine lv_aload_n hx hb dX4_come_56 rfl (lv_at hl 1 rfl) ?_
        refine m_stk (show ([.ref aS] : List Value) = [.ref (ad 50)] from by rw [haS]) ?_
        refine m_get (ci := 4) (C := RX4) (T := TX4) (N' := 14) hx hb hts (by decide +kernel) hown hE hI 50 (by omega) (show g1 50 = .inr (4, [.ref (ad 51), .ref (ad 52), .ref (ad 53), .int (bI fig), .int (bI uns), .int (nI play), .ref (ad 54), .ref (ad 55), .ref (ad 56), .int (nI rd), .int (nI (came + 1)), .int mis, .int lost, .int bel]) from hS.2.1) rfl 2 (by decide) (hts (.fieldLink RX4 23 "TapePrinterLaw$Sim" "page" "[[I") (by decide +kernel)) rfl dX4_come_57 ?_
        refine m_alen2 hx hb hE hI 53 (by omega) (show g1 53 = .inl (k.2.1.2.2.2, u, .inr (.inr (.inr (.inr (pgF ad bs u))))) from hS.2.2.2.2.1) dX4_come_60 ?_
        refine lv_istore_n (lv' := [(3, .int (nI u)), (2, .int (nI t9)), (0, .ref aS), (1, .int (nI co))]) hx hb dX4_come_61 rfl hl (by decide) rfl (fun ls hl => ?_)
        refine lv_iload_n hx hb dX4_come_62 rfl (lv_at hl 0 rfl) ?_
        refine lv_bipush (v := nI 20) hx hb dX4_come_63 (by decide) ?_
        refine m_cneN (tgt := 73) hx hb (by omega) (by omega) dX4_come_65 (by decide) (fun c_65 => ?_) (fun c_65 => ?_)
        · refine lv_iload_n hx hb dX4_come_73 rfl (lv_at hl 0 rfl) ?_
          refine lv_iconst (v := nI 1) hx hb dX4_come_74 (by decide) ?_
          refine m_iaddN hx hb dX4_come_75 ?_
          refine m_new2 (n := u + 1) (c1 := 2) (s1 := 5 + (u + 1)) hx hb hown (hts (.classLink RX4 22 "[I") (by decide +kernel)) hE hI (by omega) (by omega) (by omega) (by show _ ≤ 4; omega) (by show _ ≤ 70; omega) dX4_come_76 (fun ad2 H hag2 hE hI => ?_)
          obtain ⟨g8, hg8⟩ : ∃ zz, zz = va_up g1 N (.inl (k.2.1.2.2.2, (u + 1), .inr (.inr (.inr (.inr (fun _ => none)))))) := ⟨_, rfl⟩
          have hE : mE k ad2 (N + 1) (mA ad N s.heap.size) s := hE
          replace hI : mI k ad2 (N + 1) g8 (mA ad N s.heap.size) s H locs := by rw [hg8]; exact hI
          have hgg2 : ∀ i, i < N → g8 i = g1 i := fun i hi => by rw [hg8, va_up_ne _ _ (by omega)]
          have haS : ad2 50 = aS := by rw [hag2 50 (by omega)]; exact haS
          have hS : SR k ad2 bs (N + 1) g8 uns play rd n lat gar T (came + 1, mis, lost, bel, fig, u, ln, pg) := SR.grow hS (by omega) (fun i hi => hag2 i (by omega)) (fun i hi => hgg2 i (by omega))
          have hF : FRA ad g bs ad2 g8 := FRA.go hF (FRA.of (N := N) (by omega) (by omega) (fun i hi => hag2 i (by omega)) (fun i hi => hgg2 i (by omega)))
          have hG0 : ∀ i, i < 50 → g8 i = g i := fun i hi => (hgg2 i (by omega)).trans (hG0 i hi)
          have hnw2 : g8 N = .inl (k.2.1.2.2.2, (u + 1), .inr (.inr (.inr (.inr (fun _ => none))))) := by rw [hg8, va_up_self]
          refine lv_astore (lv' := [(4, .ref (ad2 N)), (3, .int (nI u)), (2, .int (nI t9)), (0, .ref aS), (1, .int (nI co))]) hx hb dX4_come_79 hl (by decide) rfl (fun ls hl => ?_)
          refine lv_iconst (v := nI 0) hx hb dX4_come_81 (by decide) ?_
          refine lv_istore (lv' := [(5, .int (nI 0)), (4, .ref (ad2 N)), (3, .int (nI u)), (2, .int (nI t9)), (0, .ref aS), (1, .int (nI co))]) hx hb dX4_come_82 hl (by decide) rfl (fun ls hl => ?_)
          rw [q_zero (fun j => some (ad2 (bs + j)))] at hnw2
          refine m_loop (σ := Nat × (Nat → va_E)) (fun ⟨q, gi⟩ => (q + 1 ≤ u + 1) ∧ gi N = .inl (k.2.1.2.2.2, (u + 1), .inr (.inr (.inr (.inr (fun j => if j < q then some (ad2 (bs + j)) else none))))) ∧ ∀ i, i ≠ N → gi i = g8 i) (fun ⟨q, gi⟩ => u + 1 - q) (fun ⟨q, gi⟩ => gi) (fun ⟨q, gi⟩ => [(0, .ref aS), (1, .int (nI co)), (2, .int (nI t9)), (3, .int (nI u)), (4, .ref (ad2 N)), (5, .int (nI q))]) (nL := 6) (0, g8) ⟨(by omega), hnw2, fun _ _ => rfl⟩ hI (lv_sub hl [4, 5, 3, 2, 1, 0] rfl) ?_
          rintro ⟨q, g9⟩ ⟨hq9, hcl84, hf84⟩ ih84 H locs ls hI hl
          have hI : mI k ad2 (N + 1) g9 (mA ad N s.heap.size) s H locs := hI
          have hl : lv_has ls 6 [(0, .ref aS), (1, .int (nI co)), (2, .int (nI t9)), (3, .int (nI u)), (4, .ref (ad2 N)), (5, .int (nI q))] := hl
          have hcl84 : g9 N = .inl (k.2.1.2.2.2, (u + 1), .inr (.inr (.inr (.inr (fun j => if j < q then some (ad2 (bs + j)) else none))))) := hcl84
          have hf84 : ∀ i, i ≠ N → g9 i = g8 i := hf84
          have hS : SR k ad2 bs (N + 1) g9 uns play rd n lat gar T (came + 1, mis, lost, bel, fig, u, ln, pg) := SR.mid hS (fun i hi => hf84 i (by omega))
          have hF : FRA ad g bs ad2 g9 := FRA.go hF ⟨fun _ _ => rfl, fun _ _ _ => rfl, fun i _ hi => hf84 i (by omega)⟩
          have hG0 : ∀ i, i < 50 → g9 i = g i := fun i hi => (hf84 i (by omega)).trans (hG0 i hi)
          refine lv_iload hx hb dX4_come_84 (lv_at hl 5 rfl) ?_
          refine lv_aload hx hb dX4_come_86 (lv_at hl 4 rfl) ?_
          refine m_alen2 hx hb hE hI N (by omega) hcl84 dX4_come_88 ?_
          refine m_cgeN (tgt := 139) hx hb (by omega) (by omega) dX4_come_89 (by decide) (fun c_89 => ?_) (fun c_89 => ?_)
          · exact (show False by omega).elim
          · refine lv_aload hx hb dX4_come_92 (lv_at hl 4 rfl) ?_
            refine lv_iload hx hb dX4_come_94 (lv_at hl 5 rfl) ?_
            refine lv_iload hx hb dX4_come_96 (lv_at hl 5 rfl) ?_
            refine lv_iconst (v := nI 1) hx hb dX4_come_98 (by decide) ?_
            refine m_iaddN hx hb dX4_come_99 ?_
            refine lv_aload hx hb dX4_come_100 (lv_at hl 4 rfl) ?_
            refine m_alen2 hx hb hE hI N (by omega) hcl84 dX4_come_102 ?_
            refine m_cneN (tgt := 112) hx hb (by omega) (by omega) dX4_come_103 (by decide) (fun c_103 => ?_) (fun c_103 => ?_)
            · refine lv_aload_n hx hb dX4_come_112 rfl (lv_at hl 0 rfl) ?_
              refine m_stk (show ([.ref aS, .int (nI q), .ref (ad2 N)] : List Value) = [.ref (ad2 50), .int (nI q), .ref (ad2 N)] from by rw [haS]) ?_
              refine m_get (ci := 4) (C := RX4) (T := TX4) (N' := 14) hx hb hts (by decide +kernel) hown hE hI 50 (by omega) (show g9 50 = .inr (4, [.ref (ad2 51), .ref (ad2 52), .ref (ad2 53), .int (bI fig), .int (bI uns), .int (nI play), .ref (ad2 54), .ref (ad2 55), .ref (ad2 56), .int (nI rd), .int (nI (came + 1)), .int mis, .int lost, .int bel]) from hS.2.1) rfl 2 (by decide) (hts (.fieldLink RX4 23 "TapePrinterLaw$Sim" "page" "[[I") (by decide +kernel)) rfl dX4_come_113 ?_
              refine lv_iload_n hx hb dX4_come_116 rfl (lv_at hl 3 rfl) ?_
              refine lv_bipush (v := nI 20) hx hb dX4_come_117 (by decide) ?_
              refine m_cneN (tgt := 129) hx hb (by omega) (by omega) dX4_come_119 (by decide) (fun c_119 => ?_) (fun c_119 => ?_)
              · refine lv_iload hx hb dX4_come_129 (lv_at hl 5 rfl) ?_
                refine m_ald2 hx hb hE hI 53 (by omega) (j := q) (show g9 53 = .inl (k.2.1.2.2.2, u, .inr (.inr (.inr (.inr (pgF ad2 bs u))))) from hS.2.2.2.2.1) (by omega) (by omega) dX4_come_131 ?_
                refine m_rf (pgF_in (by omega)) ?_
                have pr_3 : g9 (bs + q) = .inl (k.2.1.1, ln q, .inl (fun i => nI (pg q i))) := hS.2.2.2.2.2.2.2.2 q (show q < u by omega)
                refine m_ast2 hx hb hE hI N (bs + q) (by omega) (by omega) (j := q) hcl84 pr_3 (by omega) (by omega) dX4_come_132 (fun H locs hI => ?_)
                obtain ⟨g10, hg10⟩ : ∃ zz, zz = va_up g9 N (.inl (k.2.1.2.2.2, (u + 1), .inr (.inr (.inr (.inr (va_up (fun j => if j < q then some (ad2 (bs + j)) else none) q (some (ad2 (bs + q))))))))) := ⟨_, rfl⟩
                replace hI : mI k ad2 (N + 1) g10 (mA ad N s.heap.size) s H locs := by rw [hg10]; exact hI
                have hS : SR k ad2 bs (N + 1) g10 uns play rd n lat gar T (came + 1, mis, lost, bel, fig, u, ln, pg) := by rw [hg10]; exact SR.off hS (by omega)
                have hF : FRA ad g bs ad2 g10 := by rw [hg10]; exact FRA.up hF (by omega)
                have hG0 : ∀ i, i < 50 → g10 i = g i := fun i hi => by rw [hg10]; exact (va_up_ne _ _ (by omega)).trans (hG0 i hi)
                have hcl84 : g10 N = .inl (k.2.1.2.2.2, (u + 1), .inr (.inr (.inr (.inr (va_up (fun j => if j < q then some (ad2 (bs + j)) else none) q (some (ad2 (bs + q)))))))) := by rw [hg10, va_up_self]
                refine lv_iinc (v := nI (q + 1)) (lv' := [(5, .int (nI (q + 1))), (0, .ref aS), (1, .int (nI co)), (2, .int (nI t9)), (3, .int (nI u)), (4, .ref (ad2 N))]) hx hb dX4_come_133 hl (k := 5) rfl (nI_add q 1) (by decide) rfl (fun ls hl => ?_)
                refine lv_goto (tgt := 84) hx hb dX4_come_136 (by decide) ?_
                have hfr9 : ∀ i, i ≠ N → g10 i = g8 i := fun i hi => by rw [hg10, va_up_ne _ _ hi]; exact hf84 i hi
                rw [show va_up (fun j => if j < q then some (ad2 (bs + j)) else none) q (some (ad2 (bs + q))) = fun j => if j < q + 1 then some (ad2 (bs + j)) else none from q_up (fun j => some (ad2 (bs + j))) q] at hcl84
                exact ih84 (q + 1, g10) ⟨(by omega), hcl84, hfr9⟩ (show u + 1 - (q + 1) < u + 1 - q by omega) _ _ _ hI (lv_sub hl [1, 2, 3, 4, 5, 0] rfl)
              · exact (show False by omega).elim
            · refine lv_iconst (v := nI 0) hx hb dX4_come_106 (by decide) ?_
              refine m_newi (n := 0) (c1 := 3) (s1 := 5 + (u + 1) + 0) hx hb (hts (.arrayClass .int) (by decide +kernel)) hE hI (by omega) (by omega) (by omega) (by show _ ≤ 4; omega) (by show _ ≤ 70; omega) dX4_come_107 (fun ad3 H hag3 hE hI => ?_)
              obtain ⟨g11, hg11⟩ : ∃ zz, zz = va_up g9 (N + 1) (.inl (k.2.1.1, 0, .inl (fun _ => nI 0))) := ⟨_, rfl⟩
              have hE : mE k ad3 (N + 2) (mA ad N s.heap.size) s := hE
              replace hI : mI k ad3 (N + 2) g11 (mA ad N s.heap.size) s H locs := by rw [hg11]; exact hI
              have hgg3 : ∀ i, i < N + 1 → g11 i = g9 i := fun i hi => by rw [hg11, va_up_ne _ _ (by omega)]
              have haS : ad3 50 = aS := by rw [hag3 50 (by omega)]; exact haS
              have hS : SR k ad3 bs (N + 2) g11 uns play rd n lat gar T (came + 1, mis, lost, bel, fig, u, ln, pg) := SR.grow hS (by omega) (fun i hi => hag3 i (by omega)) (fun i hi => hgg3 i (by omega))
              have hF : FRA ad g bs ad3 g11 := FRA.go hF (FRA.of (N := (N + 1)) (by omega) (by omega) (fun i hi => hag3 i (by omega)) (fun i hi => hgg3 i (by omega)))
              have hG0 : ∀ i, i < 50 → g11 i = g i := fun i hi => (hgg3 i (by omega)).trans (hG0 i hi)
              have hcl84 : g11 N = .inl (k.2.1.2.2.2, (u + 1), .inr (.inr (.inr (.inr (fun j => if j < q then some (ad2 (bs + j)) else none))))) := by rw [hgg3 _ (by omega)]; exact hcl84
              have hl : lv_has ls 6 [(0, .ref aS), (1, .int (nI co)), (2, .int (nI t9)), (3, .int (nI u)), (4, .ref (ad3 N)), (5, .int (nI q))] := by rw [hag3 N (by omega)]; exact hl
              have hnw3 : g11 (N + 1) = .inl (k.2.1.1, 0, .inl (fun _ => nI 0)) := by rw [hg11, va_up_self]
              refine m_stk (show ([.ref (ad3 (N + 1)), .int (nI q), .ref (ad2 N)] : List Value) = [.ref (ad3 (N + 1)), .int (nI q), .ref (ad3 N)] from by rw [hag3 N (by omega)]) ?_
              refine lv_goto (tgt := 132) hx hb dX4_come_109 (by decide) ?_
              refine m_ast2 hx hb hE hI N (N + 1) (by omega) (by omega) (j := q) hcl84 hnw3 (by omega) (by omega) dX4_come_132 (fun H locs hI => ?_)
              obtain ⟨g12, hg12⟩ : ∃ zz, zz = va_up g11 N (.inl (k.2.1.2.2.2, (u + 1), .inr (.inr (.inr (.inr (va_up (fun j => if j < q then some (ad2 (bs + j)) else none) q (some (ad3 (N + 1))))))))) := ⟨_, rfl⟩
              replace hI : mI k ad3 (N + 2) g12 (mA ad N s.heap.size) s H locs := by rw [hg12]; exact hI
              have hS : SR k ad3 bs (N + 2) g12 uns play rd n lat gar T (came + 1, mis, lost, bel, fig, u, ln, pg) := by rw [hg12]; exact SR.off hS (by omega)
              have hF : FRA ad g bs ad3 g12 := by rw [hg12]; exact FRA.up hF (by omega)
              have hG0 : ∀ i, i < 50 → g12 i = g i := fun i hi => by rw [hg12]; exact (va_up_ne _ _ (by omega)).trans (hG0 i hi)
              have hcl84 : g12 N = .inl (k.2.1.2.2.2, (u + 1), .inr (.inr (.inr (.inr (va_up (fun j => if j < q then some (ad2 (bs + j)) else none) q (some (ad3 (N + 1)))))))) := by rw [hg12, va_up_self]
              have hnw3 : g12 (N + 1) = .inl (k.2.1.1, 0, .inl (fun _ => nI 0)) := by rw [hg12, va_up_ne _ _ (by omega)]; exact hnw3
              refine lv_iinc (v := nI (q + 1)) (lv' := [(5, .int (nI (q + 1))), (0, .ref aS), (1, .int (nI co)), (2, .int (nI t9)), (3, .int (nI u)), (4, .ref (ad3 N))]) hx hb dX4_come_133 hl (k := 5) rfl (nI_add q 1) (by decide) rfl (fun ls hl => ?_)
              refine lv_goto (tgt := 84) hx hb dX4_come_136 (by decide) ?_
              refine lv_iload hx hb dX4_come_84 (lv_at hl 0 rfl) ?_
              refine lv_aload hx hb dX4_come_86 (lv_at hl 5 rfl) ?_
              refine m_alen2 hx hb hE hI N (by omega) hcl84 dX4_come_88 ?_
              refine m_cgeN (tgt := 139) hx hb (by omega) (by omega) dX4_come_89 (by decide) (fun c_89 => ?_) (fun c_89 => ?_)
              · refine lv_aload_n hx hb dX4_come_139 rfl (lv_at hl 1 rfl) ?_
                refine lv_aload hx hb dX4_come_140 (lv_at hl 5 rfl) ?_
                refine m_stk (show ([.ref (ad3 N), .ref aS] : List Value) = [.ref (ad3 N), .ref (ad3 50)] from by rw [haS]) ?_
                refine m_put (ci := 4) (C := RX4) (T := TX4) (N' := 14) (ty := .array (.array .int)) hx hb hts (by decide +kernel) tyX4 tyX4_ok nmX4 hown hE hI 50 (by omega) (show g12 50 = .inr (4, [.ref (ad3 51), .ref (ad3 52), .ref (ad3 53), .int (bI fig), .int (bI uns), .int (nI play), .ref (ad3 54), .ref (ad3 55), .ref (ad3 56), .int (nI rd), .int (nI (came + 1)), .int mis, .int lost, .int bel]) from hS.2.1) rfl 2 (by decide) (hts (.fieldLink RX4 23 "TapePrinterLaw$Sim" "page" "[[I") (by decide +kernel)) rfl (by decide +kernel) rfl rfl (Nat.le_of_ble_eq_true rfl) dX4_come_142 (fun H locs hI => ?_)
                have hnl := SR.nlc (u + 1) 0 N (N + 1) (va_up ln u 0) (pg) hE hI hS (by omega) (by omega) (by omega) (by omega) (by omega) hcl84 (fun j hj => by
                  by_cases e1 : j = q
                  · rw [e1, va_up_self, if_pos c_103]
                  · rw [va_up_ne _ _ e1]; show (if j < q then some (ad2 (bs + j)) else none) = _; rw [if_pos (show j < q by omega), if_neg (show ¬ j + 1 = u + 1 by omega), hag3 _ (by omega)] <;> rfl) hnw3 (fun l hl => by
                  exact ⟨va_up_ne _ _ (by omega), rfl⟩) (by rw [show u + 1 - 1 = u by omega, va_up_self])
                obtain ⟨adP, gP, hE, hI, hFP, hGP, hS⟩ := hnl
                have hP : sNl (u, ln, pg) = (u + 1, va_up ln u 0, pg) := by unfold sNl; exact if_neg (by show ¬ u = 20; omega)
                obtain ⟨g13, hg13⟩ : ∃ zz, zz = gP := ⟨_, rfl⟩
                rw [← hg13] at hI hFP hGP hS
                have hE : mE k adP (bs + (u + 1)) (mA ad N s.heap.size) s := hE
                have hI : mI k adP (bs + (u + 1)) g13 (mA ad N s.heap.size) s H locs := hI
                have hS : SR k adP bs (bs + (u + 1)) g13 uns play rd n lat gar T (came + 1, mis, lost, bel, fig, u + 1, va_up ln u 0, pg) := hS
                have hF : FRA ad g bs adP g13 := FRA.go hF hFP
                have hG0 : ∀ i, i < 50 → g13 i = g i := fun i hi => (hGP i hi).trans (hG0 i hi)
                have haS : adP 50 = aS := (hFP.1 50 (by omega)).trans haS
                have hl : lv_has ls 6 [(5, .int (nI (q + 1))), (0, .ref aS), (1, .int (nI co)), (2, .int (nI t9)), (3, .int (nI u))] := lv_sub hl [0, 1, 2, 3, 4] rfl
                refine m_via hI 167 ([.int (nI (chF t9 fig))]) (fun K => ?_) (fun H locs hI => ?_)
                · refine lv_aload_n hx hb dX4_come_145 rfl (lv_at hl 1 rfl) ?_
                  refine m_stk (show ([.ref aS] : List Value) = [.ref (adP 50)] from by rw [haS]) ?_
                  refine m_get (ci := 4) (C := RX4) (T := TX4) (N' := 14) hx hb hts (by decide +kernel) hown hE hI 50 (by omega) (show g13 50 = .inr (4, [.ref (adP 51), .ref (adP 52), .ref (adP 53), .int (bI fig), .int (bI uns), .int (nI play), .ref (adP 54), .ref (adP 55), .ref (adP 56), .int (nI rd), .int (nI (came + 1)), .int mis, .int lost, .int bel]) from hS.2.1) rfl 3 (by decide) (hts (.fieldLink RX4 57 "TapePrinterLaw$Sim" "isFigures" "Z") (by decide +kernel)) rfl dX4_come_146 ?_
                  refine m_zeqB (tgt := 161) hx hb dX4_come_149 (by decide) (fun c_149 => ?_) (fun c_149 => ?_)
                  · refine lv_aload_n hx hb dX4_come_161 rfl (lv_at hl 1 rfl) ?_
                    refine m_stk (show ([.ref aS] : List Value) = [.ref (adP 50)] from by rw [haS]) ?_
                    refine m_get (ci := 4) (C := RX4) (T := TX4) (N' := 14) hx hb hts (by decide +kernel) hown hE hI 50 (by omega) (show g13 50 = .inr (4, [.ref (adP 51), .ref (adP 52), .ref (adP 53), .int (bI fig), .int (bI uns), .int (nI play), .ref (adP 54), .ref (adP 55), .ref (adP 56), .int (nI rd), .int (nI (came + 1)), .int mis, .int lost, .int bel]) from hS.2.1) rfl 0 (by decide) (hts (.fieldLink RX4 13 "TapePrinterLaw$Sim" "letters" "[I") (by decide +kernel)) rfl dX4_come_162 ?_
                    refine lv_iload_n hx hb dX4_come_165 rfl (lv_at hl 3 rfl) ?_
                    refine m_iald hx hb hE hI 51 (by omega) (j := t9) (show g13 51 = .inl (k.2.1.1, 32, .inl (fun j => nI (chF j false))) from hS.2.2.1) (by omega) (by omega) dX4_come_166 ?_
                    refine m_top (show (fun j => nI (chF j false)) t9 = nI (chF t9 false) from rfl) ?_
                    refine m_top (show nI (chF t9 false) = nI (chF t9 fig) from by rw [c_149]) ?_
                    exact K H locs hI
                  · refine lv_aload_n hx hb dX4_come_152 rfl (lv_at hl 1 rfl) ?_
                    refine m_stk (show ([.ref aS] : List Value) = [.ref (adP 50)] from by rw [haS]) ?_
                    refine m_get (ci := 4) (C := RX4) (T := TX4) (N' := 14) hx hb hts (by decide +kernel) hown hE hI 50 (by omega) (show g13 50 = .inr (4, [.ref (adP 51), .ref (adP 52), .ref (adP 53), .int (bI fig), .int (bI uns), .int (nI play), .ref (adP 54), .ref (adP 55), .ref (adP 56), .int (nI rd), .int (nI (came + 1)), .int mis, .int lost, .int bel]) from hS.2.1) rfl 1 (by decide) (hts (.fieldLink RX4 19 "TapePrinterLaw$Sim" "figures" "[I") (by decide +kernel)) rfl dX4_come_153 ?_
                    refine lv_iload_n hx hb dX4_come_156 rfl (lv_at hl 3 rfl) ?_
                    refine m_iald hx hb hE hI 52 (by omega) (j := t9) (show g13 52 = .inl (k.2.1.1, 32, .inl (fun j => nI (chF j true))) from hS.2.2.2.1) (by omega) (by omega) dX4_come_157 ?_
                    refine m_top (show (fun j => nI (chF j true)) t9 = nI (chF t9 true) from rfl) ?_
                    refine lv_goto (tgt := 167) hx hb dX4_come_158 (by decide) ?_
                    refine m_top (show nI (chF t9 true) = nI (chF t9 fig) from by rw [c_149]) ?_
                    exact K H locs hI
                have hch := chF_le t9 ht32 fig
                have h54 : chF t9 fig = 54 := by rw [c_53]; exact chF_2 fig
                refine lv_istore_n (lv' := [(3, .int (nI (chF t9 fig))), (5, .int (nI (q + 1))), (0, .ref aS), (1, .int (nI co)), (2, .int (nI t9))]) hx hb dX4_come_167 rfl hl (by decide) rfl (fun ls hl => ?_)
                refine lv_iload_n hx hb dX4_come_168 rfl (lv_at hl 0 rfl) ?_
                refine m_zleN (tgt := 230) hx hb (by omega) dX4_come_169 (by decide) (fun c_169 => ?_) (fun c_169 => ?_)
                · exact (show False by omega).elim
                · refine lv_iload_n hx hb dX4_come_172 rfl (lv_at hl 4 rfl) ?_
                  refine lv_iconst (v := nI 2) hx hb dX4_come_173 (by decide) ?_
                  refine m_ceqN (tgt := 230) hx hb (by omega) (by omega) dX4_come_174 (by decide) (fun c_174 => ?_) (fun c_174 => ?_)
                  · refine lv_aload_n hx hb dX4_come_230 rfl (lv_at hl 2 rfl) ?_
                    refine lv_aload_n hx hb dX4_come_231 rfl (lv_at hl 2 rfl) ?_
                    refine lv_aload_n hx hb dX4_come_232 rfl (lv_at hl 2 rfl) ?_
                    refine m_stk (show ([.ref aS, .ref aS, .ref aS] : List Value) = [.ref (adP 50), .ref aS, .ref aS] from by rw [haS]) ?_
                    refine m_get (ci := 4) (C := RX4) (T := TX4) (N' := 14) hx hb hts (by decide +kernel) hown hE hI 50 (by omega) (show g13 50 = .inr (4, [.ref (adP 51), .ref (adP 52), .ref (adP 53), .int (bI fig), .int (bI uns), .int (nI play), .ref (adP 54), .ref (adP 55), .ref (adP 56), .int (nI rd), .int (nI (came + 1)), .int mis, .int lost, .int bel]) from hS.2.1) rfl 3 (by decide) (hts (.fieldLink RX4 57 "TapePrinterLaw$Sim" "isFigures" "Z") (by decide +kernel)) rfl dX4_come_233 ?_
                    refine lv_iload_n hx hb dX4_come_236 rfl (lv_at hl 4 rfl) ?_
                    refine m_stk (show ([.int (nI t9), .int (bI fig), .ref aS, .ref aS] : List Value) = [.int (nI t9), .int (bI fig), .ref (adP 50), .ref aS] from by rw [haS]) ?_
                    refine m_callVi (As := [.int (bI fig), .int (nI t9)]) (rest := [.ref aS]) ⟨hx, hb, hml, hown, hts⟩ hE hI (c_X4_after k l adP (bs + (u + 1)) g13 _ uns play rd n lat gar T (came + 1) mis lost bel fig (u + 1) (va_up ln u 0) pg bs fig t9 (by omega) hS) (cwV 2 hts gX4_come_X4_after rfl rfl rfl (by decide +kernel) ⟨Nat.le_of_ble_eq_true rfl, Nat.le_of_ble_eq_true rfl⟩) (i := 50) (by omega) (show g13 50 = .inr (4, [.ref (adP 51), .ref (adP 52), .ref (adP 53), .int (bI fig), .int (bI uns), .int (nI play), .ref (adP 54), .ref (adP 55), .ref (adP 56), .int (nI rd), .int (nI (came + 1)), .int mis, .int lost, .int bel]) from hS.2.1) rfl rfl hl.1 rfl (Nat.le_of_ble_eq_true rfl) dX4_come_237 ⟨(by show _ ≤ 4; omega), (by show _ ≤ 70; omega)⟩ (m_deti (fun H locs hI => ?_))
                    refine m_stk (show ([.int (bI (fb uns t9 fig)), .ref aS] : List Value) = [.int (bI (fb uns t9 fig)), .ref (adP 50)] from by rw [haS]) ?_
                    refine m_put (ci := 4) (C := RX4) (T := TX4) (N' := 14) (ty := .boolean) hx hb hts (by decide +kernel) tyX4 tyX4_ok nmX4 hown hE hI 50 (by omega) (show g13 50 = .inr (4, [.ref (adP 51), .ref (adP 52), .ref (adP 53), .int (bI fig), .int (bI uns), .int (nI play), .ref (adP 54), .ref (adP 55), .ref (adP 56), .int (nI rd), .int (nI (came + 1)), .int mis, .int lost, .int bel]) from hS.2.1) rfl 3 (by decide) (hts (.fieldLink RX4 57 "TapePrinterLaw$Sim" "isFigures" "Z") (by decide +kernel)) rfl (by decide +kernel) (bI_nar _) (bI_fit _) (Nat.le_of_ble_eq_true rfl) dX4_come_240 (fun H locs hI => ?_)
                    obtain ⟨g14, hg14⟩ : ∃ zz, zz = va_up g13 50 (.inr (4, [.ref (adP 51), .ref (adP 52), .ref (adP 53), .int (bI (fb uns t9 fig)), .int (bI uns), .int (nI play), .ref (adP 54), .ref (adP 55), .ref (adP 56), .int (nI rd), .int (nI (came + 1)), .int mis, .int lost, .int bel])) := ⟨_, rfl⟩
                    replace hI : mI k adP (bs + (u + 1)) g14 (mA ad N s.heap.size) s H locs := by rw [hg14]; exact hI
                    have hS : SR k adP bs (bs + (u + 1)) g14 uns play rd n lat gar T (came + 1, mis, lost, bel, fb uns t9 fig, u + 1, va_up ln u 0, pg) := by rw [hg14]; exact SR.obj hS
                    have hF : FRA ad g bs adP g14 := by rw [hg14]; exact FRA.up hF (by omega)
                    have hG0 : ∀ i, i < 50 → g14 i = g i := fun i hi => by rw [hg14]; exact (va_up_ne _ _ (by omega)).trans (hG0 i hi)
                    refine lv_iload_n hx hb dX4_come_243 rfl (lv_at hl 4 rfl) ?_
                    have hl9 : lOb sFull (chF t9 fig) (u, ln, pg) lost = lost := by unfold lOb; rw [if_pos h54]
                    have hp9 : pOb sNl sFull sAdd (chF t9 fig) (u, ln, pg) = (u + 1, va_up ln u 0, pg) := by unfold pOb; rw [if_pos h54, hP]
                    have hy : yIn sNl sFull sAdd uns play lat gar co (came, mis, lost, bel, fig, u, ln, pg) = (came + 1, mis, lost, bel, fb uns t9 fig, (u + 1, va_up ln u 0, pg)) := by
                      show (came + 1, (if rdY play lat gar came co = co then mis else mis + 1), lOb sFull (chF (rdY play lat gar came co) fig) (u, ln, pg) lost, (if rdY play lat gar came co = 8 then bel + 1 else bel), fb uns (rdY play lat gar came co) fig, pOb sNl sFull sAdd (chF (rdY play lat gar came co) fig) (u, ln, pg)) = _
                      rw [← ht9, if_pos c_22, if_neg c_38, hl9, hp9]
                    exact m_giret hx hb hr hlocks hE hI (post := fun (r : Int32) (ad1 : Nat → Nat) (N1 : Nat) (g1 : Nat → va_E) => r = nI (rdY play lat gar came co) ∧ FRA ad g bs ad1 g1 ∧ (∀ i, i < 50 → g1 i = g i) ∧ SR k ad1 bs N1 g1 uns play rd n lat gar T (yIn sNl sFull sAdd uns play lat gar co (came, mis, lost, bel, fig, u, ln, pg))) (v := nI t9) (⟨by rw [ht9], hF, hG0, by rw [hy]; exact hS⟩) (by omega) (by omega) dX4_come_244
                  · exact (show False by omega).elim
              · exact (show False by omega).elim
        · refine lv_bipush (v := nI 20) hx hb dX4_come_68 (by decide) ?_
          refine lv_goto (tgt := 76) hx hb dX4_come_70 (by decide) ?_
          refine m_new2 (n := 20) (c1 := 2) (s1 := 25) hx hb hown (hts (.classLink RX4 22 "[I") (by decide +kernel)) hE hI (by omega) (by omega) (by omega) (by show _ ≤ 4; omega) (by show _ ≤ 70; omega) dX4_come_76 (fun ad4 H hag4 hE hI => ?_)
          obtain ⟨g15, hg15⟩ : ∃ zz, zz = va_up g1 N (.inl (k.2.1.2.2.2, 20, .inr (.inr (.inr (.inr (fun _ => none)))))) := ⟨_, rfl⟩
          have hE : mE k ad4 (N + 1) (mA ad N s.heap.size) s := hE
          replace hI : mI k ad4 (N + 1) g15 (mA ad N s.heap.size) s H locs := by rw [hg15]; exact hI
          have hgg4 : ∀ i, i < N → g15 i = g1 i := fun i hi => by rw [hg15, va_up_ne _ _ (by omega)]
          have haS : ad4 50 = aS := by rw [hag4 50 (by omega)]; exact haS
          have hS : SR k ad4 bs (N + 1) g15 uns play rd n lat gar T (came + 1, mis, lost, bel, fig, u, ln, pg) := SR.grow hS (by omega) (fun i hi => hag4 i (by omega)) (fun i hi => hgg4 i (by omega))
          have hF : FRA ad g bs ad4 g15 := FRA.go hF (FRA.of (N := N) (by omega) (by omega) (fun i hi => hag4 i (by omega)) (fun i hi => hgg4 i (by omega)))
          have hG0 : ∀ i, i < 50 → g15 i = g i := fun i hi => (hgg4 i (by omega)).trans (hG0 i hi)
          have hnw4 : g15 N = .inl (k.2.1.2.2.2, 20, .inr (.inr (.inr (.inr (fun _ => none))))) := by rw [hg15, va_up_self]
          refine lv_astore (lv' := [(4, .ref (ad4 N)), (3, .int (nI u)), (2, .int (nI t9)), (0, .ref aS), (1, .int (nI co))]) hx hb dX4_come_79 hl (by decide) rfl (fun ls hl => ?_)
          refine lv_iconst (v := nI 0) hx hb dX4_come_81 (by decide) ?_
          refine lv_istore (lv' := [(5, .int (nI 0)), (4, .ref (ad4 N)), (3, .int (nI u)), (2, .int (nI t9)), (0, .ref aS), (1, .int (nI co))]) hx hb dX4_come_82 hl (by decide) rfl (fun ls hl => ?_)
          rw [q_zero (fun j => some (ad4 (bs + (j + 1))))] at hnw4
          refine m_loop (σ := Nat × (Nat → va_E)) (fun ⟨q, gi⟩ => (q + 1 ≤ 20) ∧ gi N = .inl (k.2.1.2.2.2, 20, .inr (.inr (.inr (.inr (fun j => if j < q then some (ad4 (bs + (j + 1))) else none))))) ∧ ∀ i, i ≠ N → gi i = g15 i) (fun ⟨q, gi⟩ => 20 - q) (fun ⟨q, gi⟩ => gi) (fun ⟨q, gi⟩ => [(0, .ref aS), (1, .int (nI co)), (2, .int (nI t9)), (3, .int (nI u)), (4, .ref (ad4 N)), (5, .int (nI q))]) (nL := 6) (0, g15) ⟨(by omega), hnw4, fun _ _ => rfl⟩ hI (lv_sub hl [4, 5, 3, 2, 1, 0] rfl) ?_
          rintro ⟨q, g16⟩ ⟨hq9, hcl84, hf84⟩ ih84 H locs ls hI hl
          have hI : mI k ad4 (N + 1) g16 (mA ad N s.heap.size) s H locs := hI
          have hl : lv_has ls 6 [(0, .ref aS), (1, .int (nI co)), (2, .int (nI t9)), (3, .int (nI u)), (4, .ref (ad4 N)), (5, .int (nI q))] := hl
          have hcl84 : g16 N = .inl (k.2.1.2.2.2, 20, .inr (.inr (.inr (.inr (fun j => if j < q then some (ad4 (bs + (j + 1))) else none))))) := hcl84
          have hf84 : ∀ i, i ≠ N → g16 i = g15 i := hf84
          have hS : SR k ad4 bs (N + 1) g16 uns play rd n lat gar T (came + 1, mis, lost, bel, fig, u, ln, pg) := SR.mid hS (fun i hi => hf84 i (by omega))
          have hF : FRA ad g bs ad4 g16 := FRA.go hF ⟨fun _ _ => rfl, fun _ _ _ => rfl, fun i _ hi => hf84 i (by omega)⟩
          have hG0 : ∀ i, i < 50 → g16 i = g i := fun i hi => (hf84 i (by omega)).trans (hG0 i hi)
          refine lv_iload hx hb dX4_come_84 (lv_at hl 5 rfl) ?_
          refine lv_aload hx hb dX4_come_86 (lv_at hl 4 rfl) ?_
          refine m_alen2 hx hb hE hI N (by omega) hcl84 dX4_come_88 ?_
          refine m_cgeN (tgt := 139) hx hb (by omega) (by omega) dX4_come_89 (by decide) (fun c_89 => ?_) (fun c_89 => ?_)
          · exact (show False by omega).elim
          · refine lv_aload hx hb dX4_come_92 (lv_at hl 4 rfl) ?_
            refine lv_iload hx hb dX4_come_94 (lv_at hl 5 rfl) ?_
            refine lv_iload hx hb dX4_come_96 (lv_at hl 5 rfl) ?_
            refine lv_iconst (v := nI 1) hx hb dX4_come_98 (by decide) ?_
            refine m_iaddN hx hb dX4_come_99 ?_
            refine lv_aload hx hb dX4_come_100 (lv_at hl 4 rfl) ?_
            refine m_alen2 hx hb hE hI N (by omega) hcl84 dX4_come_102 ?_
            refine m_cneN (tgt := 112) hx hb (by omega) (by omega) dX4_come_103 (by decide) (fun c_103 => ?_) (fun c_103 => ?_)
            · refine lv_aload_n hx hb dX4_come_112 rfl (lv_at hl 0 rfl) ?_
              refine m_stk (show ([.ref aS, .int (nI q), .ref (ad4 N)] : List Value) = [.ref (ad4 50), .int (nI q), .ref (ad4 N)] from by rw [haS]) ?_
              refine m_get (ci := 4) (C := RX4) (T := TX4) (N' := 14) hx hb hts (by decide +kernel) hown hE hI 50 (by omega) (show g16 50 = .inr (4, [.ref (ad4 51), .ref (ad4 52), .ref (ad4 53), .int (bI fig), .int (bI uns), .int (nI play), .ref (ad4 54), .ref (ad4 55), .ref (ad4 56), .int (nI rd), .int (nI (came + 1)), .int mis, .int lost, .int bel]) from hS.2.1) rfl 2 (by decide) (hts (.fieldLink RX4 23 "TapePrinterLaw$Sim" "page" "[[I") (by decide +kernel)) rfl dX4_come_113 ?_
              refine lv_iload_n hx hb dX4_come_116 rfl (lv_at hl 3 rfl) ?_
              refine lv_bipush (v := nI 20) hx hb dX4_come_117 (by decide) ?_
              refine m_cneN (tgt := 129) hx hb (by omega) (by omega) dX4_come_119 (by decide) (fun c_119 => ?_) (fun c_119 => ?_)
              · exact (show False by omega).elim
              · refine lv_iload hx hb dX4_come_122 (lv_at hl 5 rfl) ?_
                refine lv_iconst (v := nI 1) hx hb dX4_come_124 (by decide) ?_
                refine m_iaddN hx hb dX4_come_125 ?_
                refine lv_goto (tgt := 131) hx hb dX4_come_126 (by decide) ?_
                refine m_ald2 hx hb hE hI 53 (by omega) (j := q + 1) (show g16 53 = .inl (k.2.1.2.2.2, u, .inr (.inr (.inr (.inr (pgF ad4 bs u))))) from hS.2.2.2.2.1) (by omega) (by omega) dX4_come_131 ?_
                refine m_rf (pgF_in (by omega)) ?_
                have pr_4 : g16 (bs + (q + 1)) = .inl (k.2.1.1, ln (q + 1), .inl (fun i => nI (pg (q + 1) i))) := hS.2.2.2.2.2.2.2.2 (q + 1) (show q + 1 < u by omega)
                refine m_ast2 hx hb hE hI N (bs + (q + 1)) (by omega) (by omega) (j := q) hcl84 pr_4 (by omega) (by omega) dX4_come_132 (fun H locs hI => ?_)
                obtain ⟨g17, hg17⟩ : ∃ zz, zz = va_up g16 N (.inl (k.2.1.2.2.2, 20, .inr (.inr (.inr (.inr (va_up (fun j => if j < q then some (ad4 (bs + (j + 1))) else none) q (some (ad4 (bs + (q + 1)))))))))) := ⟨_, rfl⟩
                replace hI : mI k ad4 (N + 1) g17 (mA ad N s.heap.size) s H locs := by rw [hg17]; exact hI
                have hS : SR k ad4 bs (N + 1) g17 uns play rd n lat gar T (came + 1, mis, lost, bel, fig, u, ln, pg) := by rw [hg17]; exact SR.off hS (by omega)
                have hF : FRA ad g bs ad4 g17 := by rw [hg17]; exact FRA.up hF (by omega)
                have hG0 : ∀ i, i < 50 → g17 i = g i := fun i hi => by rw [hg17]; exact (va_up_ne _ _ (by omega)).trans (hG0 i hi)
                have hcl84 : g17 N = .inl (k.2.1.2.2.2, 20, .inr (.inr (.inr (.inr (va_up (fun j => if j < q then some (ad4 (bs + (j + 1))) else none) q (some (ad4 (bs + (q + 1))))))))) := by rw [hg17, va_up_self]
                refine lv_iinc (v := nI (q + 1)) (lv' := [(5, .int (nI (q + 1))), (0, .ref aS), (1, .int (nI co)), (2, .int (nI t9)), (3, .int (nI u)), (4, .ref (ad4 N))]) hx hb dX4_come_133 hl (k := 5) rfl (nI_add q 1) (by decide) rfl (fun ls hl => ?_)
                refine lv_goto (tgt := 84) hx hb dX4_come_136 (by decide) ?_
                have hfr9 : ∀ i, i ≠ N → g17 i = g15 i := fun i hi => by rw [hg17, va_up_ne _ _ hi]; exact hf84 i hi
                rw [show va_up (fun j => if j < q then some (ad4 (bs + (j + 1))) else none) q (some (ad4 (bs + (q + 1)))) = fun j => if j < q + 1 then some (ad4 (bs + (j + 1))) else none from q_up (fun j => some (ad4 (bs + (j + 1)))) q] at hcl84
                exact ih84 (q + 1, g17) ⟨(by omega), hcl84, hfr9⟩ (show 20 - (q + 1) < 20 - q by omega) _ _ _ hI (lv_sub hl [1, 2, 3, 4, 5, 0] rfl)
            · refine lv_iconst (v := nI 0) hx hb dX4_come_106 (by decide) ?_
              refine m_newi (n := 0) (c1 := 3) (s1 := 25) hx hb (hts (.arrayClass .int) (by decide +kernel)) hE hI (by omega) (by omega) (by omega) (by show _ ≤ 4; omega) (by show _ ≤ 70; omega) dX4_come_107 (fun ad5 H hag5 hE hI => ?_)
              obtain ⟨g18, hg18⟩ : ∃ zz, zz = va_up g16 (N + 1) (.inl (k.2.1.1, 0, .inl (fun _ => nI 0))) := ⟨_, rfl⟩
              have hE : mE k ad5 (N + 2) (mA ad N s.heap.size) s := hE
              replace hI : mI k ad5 (N + 2) g18 (mA ad N s.heap.size) s H locs := by rw [hg18]; exact hI
              have hgg5 : ∀ i, i < N + 1 → g18 i = g16 i := fun i hi => by rw [hg18, va_up_ne _ _ (by omega)]
              have haS : ad5 50 = aS := by rw [hag5 50 (by omega)]; exact haS
              have hS : SR k ad5 bs (N + 2) g18 uns play rd n lat gar T (came + 1, mis, lost, bel, fig, u, ln, pg) := SR.grow hS (by omega) (fun i hi => hag5 i (by omega)) (fun i hi => hgg5 i (by omega))
              have hF : FRA ad g bs ad5 g18 := FRA.go hF (FRA.of (N := (N + 1)) (by omega) (by omega) (fun i hi => hag5 i (by omega)) (fun i hi => hgg5 i (by omega)))
              have hG0 : ∀ i, i < 50 → g18 i = g i := fun i hi => (hgg5 i (by omega)).trans (hG0 i hi)
              have hcl84 : g18 N = .inl (k.2.1.2.2.2, 20, .inr (.inr (.inr (.inr (fun j => if j < q then some (ad4 (bs + (j + 1))) else none))))) := by rw [hgg5 _ (by omega)]; exact hcl84
              have hl : lv_has ls 6 [(0, .ref aS), (1, .int (nI co)), (2, .int (nI t9)), (3, .int (nI u)), (4, .ref (ad5 N)), (5, .int (nI q))] := by rw [hag5 N (by omega)]; exact hl
              have hnw5 : g18 (N + 1) = .inl (k.2.1.1, 0, .inl (fun _ => nI 0)) := by rw [hg18, va_up_self]
              refine m_stk (show ([.ref (ad5 (N + 1)), .int (nI q), .ref (ad4 N)] : List Value) = [.ref (ad5 (N + 1)), .int (nI q), .ref (ad5 N)] from by rw [hag5 N (by omega)]) ?_
              refine lv_goto (tgt := 132) hx hb dX4_come_109 (by decide) ?_
              refine m_ast2 hx hb hE hI N (N + 1) (by omega) (by omega) (j := q) hcl84 hnw5 (by omega) (by omega) dX4_come_132 (fun H locs hI => ?_)
              obtain ⟨g19, hg19⟩ : ∃ zz, zz = va_up g18 N (.inl (k.2.1.2.2.2, 20, .inr (.inr (.inr (.inr (va_up (fun j => if j < q then some (ad4 (bs + (j + 1))) else none) q (some (ad5 (N + 1))))))))) := ⟨_, rfl⟩
              replace hI : mI k ad5 (N + 2) g19 (mA ad N s.heap.size) s H locs := by rw [hg19]; exact hI
              have hS : SR k ad5 bs (N + 2) g19 uns play rd n lat gar T (came + 1, mis, lost, bel, fig, u, ln, pg) := by rw [hg19]; exact SR.off hS (by omega)
              have hF : FRA ad g bs ad5 g19 := by rw [hg19]; exact FRA.up hF (by omega)
              have hG0 : ∀ i, i < 50 → g19 i = g i := fun i hi => by rw [hg19]; exact (va_up_ne _ _ (by omega)).trans (hG0 i hi)
              have hcl84 : g19 N = .inl (k.2.1.2.2.2, 20, .inr (.inr (.inr (.inr (va_up (fun j => if j < q then some (ad4 (bs + (j + 1))) else none) q (some (ad5 (N + 1)))))))) := by rw [hg19, va_up_self]
              have hnw5 : g19 (N + 1) = .inl (k.2.1.1, 0, .inl (fun _ => nI 0)) := by rw [hg19, va_up_ne _ _ (by omega)]; exact hnw5
              refine lv_iinc (v := nI (q + 1)) (lv' := [(5, .int (nI (q + 1))), (0, .ref aS), (1, .int (nI co)), (2, .int (nI t9)), (3, .int (nI u)), (4, .ref (ad5 N))]) hx hb dX4_come_133 hl (k := 5) rfl (nI_add q 1) (by decide) rfl (fun ls hl => ?_)
              refine lv_goto (tgt := 84) hx hb dX4_come_136 (by decide) ?_
              refine lv_iload hx hb dX4_come_84 (lv_at hl 0 rfl) ?_
              refine lv_aload hx hb dX4_come_86 (lv_at hl 5 rfl) ?_
              refine m_alen2 hx hb hE hI N (by omega) hcl84 dX4_come_88 ?_
              refine m_cgeN (tgt := 139) hx hb (by omega) (by omega) dX4_come_89 (by decide) (fun c_89 => ?_) (fun c_89 => ?_)
              · refine lv_aload_n hx hb dX4_come_139 rfl (lv_at hl 1 rfl) ?_
                refine lv_aload hx hb dX4_come_140 (lv_at hl 5 rfl) ?_
                refine m_stk (show ([.ref (ad5 N), .ref aS] : List Value) = [.ref (ad5 N), .ref (ad5 50)] from by rw [haS]) ?_
                refine m_put (ci := 4) (C := RX4) (T := TX4) (N' := 14) (ty := .array (.array .int)) hx hb hts (by decide +kernel) tyX4 tyX4_ok nmX4 hown hE hI 50 (by omega) (show g19 50 = .inr (4, [.ref (ad5 51), .ref (ad5 52), .ref (ad5 53), .int (bI fig), .int (bI uns), .int (nI play), .ref (ad5 54), .ref (ad5 55), .ref (ad5 56), .int (nI rd), .int (nI (came + 1)), .int mis, .int lost, .int bel]) from hS.2.1) rfl 2 (by decide) (hts (.fieldLink RX4 23 "TapePrinterLaw$Sim" "page" "[[I") (by decide +kernel)) rfl (by decide +kernel) rfl rfl (Nat.le_of_ble_eq_true rfl) dX4_come_142 (fun H locs hI => ?_)
                have hnl := SR.nlc (20) 1 N (N + 1) (va_up (fun l => ln (l + 1)) 19 0) (fun l => pg (l + 1)) hE hI hS (by omega) (by omega) (by omega) (by omega) (by omega) hcl84 (fun j hj => by
                  by_cases e1 : j = q
                  · rw [e1, va_up_self, if_pos c_103]
                  · rw [va_up_ne _ _ e1]; show (if j < q then some (ad4 (bs + (j + 1))) else none) = _; rw [if_pos (show j < q by omega), if_neg (show ¬ j + 1 = 20 by omega), hag5 _ (by omega)] <;> rfl) hnw5 (fun l hl => by
                  exact ⟨va_up_ne _ _ (by omega), rfl⟩) (by rw [show 20 - 1 = 19 by omega, va_up_self])
                obtain ⟨adP, gP, hE, hI, hFP, hGP, hS⟩ := hnl
                have hP : sNl (u, ln, pg) = (20, va_up (fun l => ln (l + 1)) 19 0, fun l => pg (l + 1)) := by unfold sNl; exact if_pos (by show u = 20; omega)
                obtain ⟨g20, hg20⟩ : ∃ zz, zz = gP := ⟨_, rfl⟩
                rw [← hg20] at hI hFP hGP hS
                have hE : mE k adP (bs + (20)) (mA ad N s.heap.size) s := hE
                have hI : mI k adP (bs + (20)) g20 (mA ad N s.heap.size) s H locs := hI
                have hS : SR k adP bs (bs + (20)) g20 uns play rd n lat gar T (came + 1, mis, lost, bel, fig, 20, va_up (fun l => ln (l + 1)) 19 0, fun l => pg (l + 1)) := hS
                have hF : FRA ad g bs adP g20 := FRA.go hF hFP
                have hG0 : ∀ i, i < 50 → g20 i = g i := fun i hi => (hGP i hi).trans (hG0 i hi)
                have haS : adP 50 = aS := (hFP.1 50 (by omega)).trans haS
                have hl : lv_has ls 6 [(5, .int (nI (q + 1))), (0, .ref aS), (1, .int (nI co)), (2, .int (nI t9)), (3, .int (nI u))] := lv_sub hl [0, 1, 2, 3, 4] rfl
                refine m_via hI 167 ([.int (nI (chF t9 fig))]) (fun K => ?_) (fun H locs hI => ?_)
                · refine lv_aload_n hx hb dX4_come_145 rfl (lv_at hl 1 rfl) ?_
                  refine m_stk (show ([.ref aS] : List Value) = [.ref (adP 50)] from by rw [haS]) ?_
                  refine m_get (ci := 4) (C := RX4) (T := TX4) (N' := 14) hx hb hts (by decide +kernel) hown hE hI 50 (by omega) (show g20 50 = .inr (4, [.ref (adP 51), .ref (adP 52), .ref (adP 53), .int (bI fig), .int (bI uns), .int (nI play), .ref (adP 54), .ref (adP 55), .ref (adP 56), .int (nI rd), .int (nI (came + 1)), .int mis, .int lost, .int bel]) from hS.2.1) rfl 3 (by decide) (hts (.fieldLink RX4 57 "TapePrinterLaw$Sim" "isFigures" "Z") (by decide +kernel)) rfl dX4_come_146 ?_
                  refine m_zeqB (tgt := 161) hx hb dX4_come_149 (by decide) (fun c_149 => ?_) (fun c_149 => ?_)
                  · refine lv_aload_n hx hb dX4_come_161 rfl (lv_at hl 1 rfl) ?_
                    refine m_stk (show ([.ref aS] : List Value) = [.ref (adP 50)] from by rw [haS]) ?_
                    refine m_get (ci := 4) (C := RX4) (T := TX4) (N' := 14) hx hb hts (by decide +kernel) hown hE hI 50 (by omega) (show g20 50 = .inr (4, [.ref (adP 51), .ref (adP 52), .ref (adP 53), .int (bI fig), .int (bI uns), .int (nI play), .ref (adP 54), .ref (adP 55), .ref (adP 56), .int (nI rd), .int (nI (came + 1)), .int mis, .int lost, .int bel]) from hS.2.1) rfl 0 (by decide) (hts (.fieldLink RX4 13 "TapePrinterLaw$Sim" "letters" "[I") (by decide +kernel)) rfl dX4_come_162 ?_
                    refine lv_iload_n hx hb dX4_come_165 rfl (lv_at hl 3 rfl) ?_
                    refine m_iald hx hb hE hI 51 (by omega) (j := t9) (show g20 51 = .inl (k.2.1.1, 32, .inl (fun j => nI (chF j false))) from hS.2.2.1) (by omega) (by omega) dX4_come_166 ?_
                    refine m_top (show (fun j => nI (chF j false)) t9 = nI (chF t9 false) from rfl) ?_
                    refine m_top (show nI (chF t9 false) = nI (chF t9 fig) from by rw [c_149]) ?_
                    exact K H locs hI
                  · refine lv_aload_n hx hb dX4_come_152 rfl (lv_at hl 1 rfl) ?_
                    refine m_stk (show ([.ref aS] : List Value) = [.ref (adP 50)] from by rw [haS]) ?_
                    refine m_get (ci := 4) (C := RX4) (T := TX4) (N' := 14) hx hb hts (by decide +kernel) hown hE hI 50 (by omega) (show g20 50 = .inr (4, [.ref (adP 51), .ref (adP 52), .ref (adP 53), .int (bI fig), .int (bI uns), .int (nI play), .ref (adP 54), .ref (adP 55), .ref (adP 56), .int (nI rd), .int (nI (came + 1)), .int mis, .int lost, .int bel]) from hS.2.1) rfl 1 (by decide) (hts (.fieldLink RX4 19 "TapePrinterLaw$Sim" "figures" "[I") (by decide +kernel)) rfl dX4_come_153 ?_
                    refine lv_iload_n hx hb dX4_come_156 rfl (lv_at hl 3 rfl) ?_
                    refine m_iald hx hb hE hI 52 (by omega) (j := t9) (show g20 52 = .inl (k.2.1.1, 32, .inl (fun j => nI (chF j true))) from hS.2.2.2.1) (by omega) (by omega) dX4_come_157 ?_
                    refine m_top (show (fun j => nI (chF j true)) t9 = nI (chF t9 true) from rfl) ?_
                    refine lv_goto (tgt := 167) hx hb dX4_come_158 (by decide) ?_
                    refine m_top (show nI (chF t9 true) = nI (chF t9 fig) from by rw [c_149]) ?_
                    exact K H locs hI
                have hch := chF_le t9 ht32 fig
                have h54 : chF t9 fig = 54 := by rw [c_53]; exact chF_2 fig
                refine lv_istore_n (lv' := [(3, .int (nI (chF t9 fig))), (5, .int (nI (q + 1))), (0, .ref aS), (1, .int (nI co)), (2, .int (nI t9))]) hx hb dX4_come_167 rfl hl (by decide) rfl (fun ls hl => ?_)
                refine lv_iload_n hx hb dX4_come_168 rfl (lv_at hl 0 rfl) ?_
                refine m_zleN (tgt := 230) hx hb (by omega) dX4_come_169 (by decide) (fun c_169 => ?_) (fun c_169 => ?_)
                · exact (show False by omega).elim
                · refine lv_iload_n hx hb dX4_come_172 rfl (lv_at hl 4 rfl) ?_
                  refine lv_iconst (v := nI 2) hx hb dX4_come_173 (by decide) ?_
                  refine m_ceqN (tgt := 230) hx hb (by omega) (by omega) dX4_come_174 (by decide) (fun c_174 => ?_) (fun c_174 => ?_)
                  · refine lv_aload_n hx hb dX4_come_230 rfl (lv_at hl 2 rfl) ?_
                    refine lv_aload_n hx hb dX4_come_231 rfl (lv_at hl 2 rfl) ?_
                    refine lv_aload_n hx hb dX4_come_232 rfl (lv_at hl 2 rfl) ?_
                    refine m_stk (show ([.ref aS, .ref aS, .ref aS] : List Value) = [.ref (adP 50), .ref aS, .ref aS] from by rw [haS]) ?_
                    refine m_get (ci := 4) (C := RX4) (T := TX4) (N' := 14) hx hb hts (by decide +kernel) hown hE hI 50 (by omega) (show g20 50 = .inr (4, [.ref (adP 51), .ref (adP 52), .ref (adP 53), .int (bI fig), .int (bI uns), .int (nI play), .ref (adP 54), .ref (adP 55), .ref (adP 56), .int (nI rd), .int (nI (came + 1)), .int mis, .int lost, .int bel]) from hS.2.1) rfl 3 (by decide) (hts (.fieldLink RX4 57 "TapePrinterLaw$Sim" "isFigures" "Z") (by decide +kernel)) rfl dX4_come_233 ?_
                    refine lv_iload_n hx hb dX4_come_236 rfl (lv_at hl 4 rfl) ?_
                    refine m_stk (show ([.int (nI t9), .int (bI fig), .ref aS, .ref aS] : List Value) = [.int (nI t9), .int (bI fig), .ref (adP 50), .ref aS] from by rw [haS]) ?_
                    refine m_callVi (As := [.int (bI fig), .int (nI t9)]) (rest := [.ref aS]) ⟨hx, hb, hml, hown, hts⟩ hE hI (c_X4_after k l adP (bs + (20)) g20 _ uns play rd n lat gar T (came + 1) mis lost bel fig 20 (va_up (fun l => ln (l + 1)) 19 0) (fun l => pg (l + 1)) bs fig t9 (by omega) hS) (cwV 2 hts gX4_come_X4_after rfl rfl rfl (by decide +kernel) ⟨Nat.le_of_ble_eq_true rfl, Nat.le_of_ble_eq_true rfl⟩) (i := 50) (by omega) (show g20 50 = .inr (4, [.ref (adP 51), .ref (adP 52), .ref (adP 53), .int (bI fig), .int (bI uns), .int (nI play), .ref (adP 54), .ref (adP 55), .ref (adP 56), .int (nI rd), .int (nI (came + 1)), .int mis, .int lost, .int bel]) from hS.2.1) rfl rfl hl.1 rfl (Nat.le_of_ble_eq_true rfl) dX4_come_237 ⟨(by show _ ≤ 4; omega), (by show _ ≤ 70; omega)⟩ (m_deti (fun H locs hI => ?_))
                    refine m_stk (show ([.int (bI (fb uns t9 fig)), .ref aS] : List Value) = [.int (bI (fb uns t9 fig)), .ref (adP 50)] from by rw [haS]) ?_
                    refine m_put (ci := 4) (C := RX4) (T := TX4) (N' := 14) (ty := .boolean) hx hb hts (by decide +kernel) tyX4 tyX4_ok nmX4 hown hE hI 50 (by omega) (show g20 50 = .inr (4, [.ref (adP 51), .ref (adP 52), .ref (adP 53), .int (bI fig), .int (bI uns), .int (nI play), .ref (adP 54), .ref (adP 55), .ref (adP 56), .int (nI rd), .int (nI (came + 1)), .int mis, .int lost, .int bel]) from hS.2.1) rfl 3 (by decide) (hts (.fieldLink RX4 57 "TapePrinterLaw$Sim" "isFigures" "Z") (by decide +kernel)) rfl (by decide +kernel) (bI_nar _) (bI_fit _) (Nat.le_of_ble_eq_true rfl) dX4_come_240 (fun H locs hI => ?_)
                    obtain ⟨g21, hg21⟩ : ∃ zz, zz = va_up g20 50 (.inr (4, [.ref (adP 51), .ref (adP 52), .ref (adP 53), .int (bI (fb uns t9 fig)), .int (bI uns), .int (nI play), .ref (adP 54), .ref (adP 55), .ref (adP 56), .int (nI rd), .int (nI (came + 1)), .int mis, .int lost, .int bel])) := ⟨_, rfl⟩
                    replace hI : mI k adP (bs + (20)) g21 (mA ad N s.heap.size) s H locs := by rw [hg21]; exact hI
                    have hS : SR k adP bs (bs + (20)) g21 uns play rd n lat gar T (came + 1, mis, lost, bel, fb uns t9 fig, 20, va_up (fun l => ln (l + 1)) 19 0, fun l => pg (l + 1)) := by rw [hg21]; exact SR.obj hS
                    have hF : FRA ad g bs adP g21 := by rw [hg21]; exact FRA.up hF (by omega)
                    have hG0 : ∀ i, i < 50 → g21 i = g i := fun i hi => by rw [hg21]; exact (va_up_ne _ _ (by omega)).trans (hG0 i hi)
                    refine lv_iload_n hx hb dX4_come_243 rfl (lv_at hl 4 rfl) ?_
                    have hl9 : lOb sFull (chF t9 fig) (u, ln, pg) lost = lost := by unfold lOb; rw [if_pos h54]
                    have hp9 : pOb sNl sFull sAdd (chF t9 fig) (u, ln, pg) = (20, va_up (fun l => ln (l + 1)) 19 0, fun l => pg (l + 1)) := by unfold pOb; rw [if_pos h54, hP]
                    have hy : yIn sNl sFull sAdd uns play lat gar co (came, mis, lost, bel, fig, u, ln, pg) = (came + 1, mis, lost, bel, fb uns t9 fig, (20, va_up (fun l => ln (l + 1)) 19 0, fun l => pg (l + 1))) := by
                      show (came + 1, (if rdY play lat gar came co = co then mis else mis + 1), lOb sFull (chF (rdY play lat gar came co) fig) (u, ln, pg) lost, (if rdY play lat gar came co = 8 then bel + 1 else bel), fb uns (rdY play lat gar came co) fig, pOb sNl sFull sAdd (chF (rdY play lat gar came co) fig) (u, ln, pg)) = _
                      rw [← ht9, if_pos c_22, if_neg c_38, hl9, hp9]
                    exact m_giret hx hb hr hlocks hE hI (post := fun (r : Int32) (ad1 : Nat → Nat) (N1 : Nat) (g1 : Nat → va_E) => r = nI (rdY play lat gar came co) ∧ FRA ad g bs ad1 g1 ∧ (∀ i, i < 50 → g1 i = g i) ∧ SR k ad1 bs N1 g1 uns play rd n lat gar T (yIn sNl sFull sAdd uns play lat gar co (came, mis, lost, bel, fig, u, ln, pg))) (v := nI t9) (⟨by rw [ht9], hF, hG0, by rw [hy]; exact hS⟩) (by omega) (by omega) dX4_come_244
                  · exact (show False by omega).elim
              · exact (show False by omega).elim
    · refine lv_aload_n hx hb dX4_come_41 rfl (lv_at hl 1 rfl) ?_
      refine lv_dup hx hb dX4_come_42 rfl ?_
      refine m_stk (show ([.ref aS, .ref aS] : List Value) = [.ref (ad 50), .ref aS] from by rw [haS]) ?_
      refine m_get (ci := 4) (C := RX4) (T := TX4) (N' := 14) hx hb hts (by decide +kernel) hown hE hI 50 (by omega) (show g1 50 = .inr (4, [.ref (ad 51), .ref (ad 52), .ref (ad 53), .int (bI fig), .int (bI uns), .int (nI play), .ref (ad 54), .ref (ad 55), .ref (ad 56), .int (nI rd), .int (nI (came + 1)), .int mis, .int lost, .int bel]) from hS.2.1) rfl 13 (by decide) (hts (.fieldLink RX4 54 "TapePrinterLaw$Sim" "rang" "I") (by decide +kernel)) rfl dX4_come_43 ?_
      refine lv_iconst (v := nI 1) hx hb dX4_come_46 (by decide) ?_
      refine lv_iadd hx hb dX4_come_47 ?_
      refine m_top (show bel + (nI 1) = bel + 1 from rfl) ?_
      refine m_stk (show ([.int (bel + 1), .ref aS] : List Value) = [.int (bel + 1), .ref (ad 50)] from by rw [haS]) ?_
      refine m_put (ci := 4) (C := RX4) (T := TX4) (N' := 14) (ty := .int) hx hb hts (by decide +kernel) tyX4 tyX4_ok nmX4 hown hE hI 50 (by omega) (show g1 50 = .inr (4, [.ref (ad 51), .ref (ad 52), .ref (ad 53), .int (bI fig), .int (bI uns), .int (nI play), .ref (ad 54), .ref (ad 55), .ref (ad 56), .int (nI rd), .int (nI (came + 1)), .int mis, .int lost, .int bel]) from hS.2.1) rfl 13 (by decide) (hts (.fieldLink RX4 54 "TapePrinterLaw$Sim" "rang" "I") (by decide +kernel)) rfl (by decide +kernel) rfl rfl (Nat.le_of_ble_eq_true rfl) dX4_come_48 (fun H locs hI => ?_)
      obtain ⟨g22, hg22⟩ : ∃ zz, zz = va_up g1 50 (.inr (4, [.ref (ad 51), .ref (ad 52), .ref (ad 53), .int (bI fig), .int (bI uns), .int (nI play), .ref (ad 54), .ref (ad 55), .ref (ad 56), .int (nI rd), .int (nI (came + 1)), .int mis, .int lost, .int (bel + 1)])) := ⟨_, rfl⟩
      replace hI : mI k ad N g22 (mA ad N s.heap.size) s H locs := by rw [hg22]; exact hI
      have hS : SR k ad bs N g22 uns play rd n lat gar T (came + 1, mis, lost, bel + 1, fig, u, ln, pg) := by rw [hg22]; exact SR.obj hS
      have hF : FRA ad g bs ad g22 := by rw [hg22]; exact FRA.up hF (by omega)
      have hG0 : ∀ i, i < 50 → g22 i = g i := fun i hi => by rw [hg22]; exact (va_up_ne _ _ (by omega)).trans (hG0 i hi)
      refine lv_iload_n hx hb dX4_come_51 rfl (lv_at hl 0 rfl) ?_
      refine lv_iconst (v := nI 2) hx hb dX4_come_52 (by decide) ?_
      refine m_cneN (tgt := 145) hx hb (by omega) (by omega) dX4_come_53 (by decide) (fun c_53 => ?_) (fun c_53 => ?_)
      · refine m_via hI 167 ([.int (nI (chF t9 fig))]) (fun K => ?_) (fun H locs hI => ?_)
        · refine lv_aload_n hx hb dX4_come_145 rfl (lv_at hl 1 rfl) ?_
          refine m_stk (show ([.ref aS] : List Value) = [.ref (ad 50)] from by rw [haS]) ?_
          refine m_get (ci := 4) (C := RX4) (T := TX4) (N' := 14) hx hb hts (by decide +kernel) hown hE hI 50 (by omega) (show g22 50 = .inr (4, [.ref (ad 51), .ref (ad 52), .ref (ad 53), .int (bI fig), .int (bI uns), .int (nI play), .ref (ad 54), .ref (ad 55), .ref (ad 56), .int (nI rd), .int (nI (came + 1)), .int mis, .int lost, .int (bel + 1)]) from hS.2.1) rfl 3 (by decide) (hts (.fieldLink RX4 57 "TapePrinterLaw$Sim" "isFigures" "Z") (by decide +kernel)) rfl dX4_come_146 ?_
          refine m_zeqB (tgt := 161) hx hb dX4_come_149 (by decide) (fun c_149 => ?_) (fun c_149 => ?_)
          · refine lv_aload_n hx hb dX4_come_161 rfl (lv_at hl 1 rfl) ?_
            refine m_stk (show ([.ref aS] : List Value) = [.ref (ad 50)] from by rw [haS]) ?_
            refine m_get (ci := 4) (C := RX4) (T := TX4) (N' := 14) hx hb hts (by decide +kernel) hown hE hI 50 (by omega) (show g22 50 = .inr (4, [.ref (ad 51), .ref (ad 52), .ref (ad 53), .int (bI fig), .int (bI uns), .int (nI play), .ref (ad 54), .ref (ad 55), .ref (ad 56), .int (nI rd), .int (nI (came + 1)), .int mis, .int lost, .int (bel + 1)]) from hS.2.1) rfl 0 (by decide) (hts (.fieldLink RX4 13 "TapePrinterLaw$Sim" "letters" "[I") (by decide +kernel)) rfl dX4_come_162 ?_
            refine lv_iload_n hx hb dX4_come_165 rfl (lv_at hl 0 rfl) ?_
            refine m_iald hx hb hE hI 51 (by omega) (j := t9) (show g22 51 = .inl (k.2.1.1, 32, .inl (fun j => nI (chF j false))) from hS.2.2.1) (by omega) (by omega) dX4_come_166 ?_
            refine m_top (show (fun j => nI (chF j false)) t9 = nI (chF t9 false) from rfl) ?_
            refine m_top (show nI (chF t9 false) = nI (chF t9 fig) from by rw [c_149]) ?_
            exact K H locs hI
          · refine lv_aload_n hx hb dX4_come_152 rfl (lv_at hl 1 rfl) ?_
            refine m_stk (show ([.ref aS] : List Value) = [.ref (ad 50)] from by rw [haS]) ?_
            refine m_get (ci := 4) (C := RX4) (T := TX4) (N' := 14) hx hb hts (by decide +kernel) hown hE hI 50 (by omega) (show g22 50 = .inr (4, [.ref (ad 51), .ref (ad 52), .ref (ad 53), .int (bI fig), .int (bI uns), .int (nI play), .ref (ad 54), .ref (ad 55), .ref (ad 56), .int (nI rd), .int (nI (came + 1)), .int mis, .int lost, .int (bel + 1)]) from hS.2.1) rfl 1 (by decide) (hts (.fieldLink RX4 19 "TapePrinterLaw$Sim" "figures" "[I") (by decide +kernel)) rfl dX4_come_153 ?_
            refine lv_iload_n hx hb dX4_come_156 rfl (lv_at hl 0 rfl) ?_
            refine m_iald hx hb hE hI 52 (by omega) (j := t9) (show g22 52 = .inl (k.2.1.1, 32, .inl (fun j => nI (chF j true))) from hS.2.2.2.1) (by omega) (by omega) dX4_come_157 ?_
            refine m_top (show (fun j => nI (chF j true)) t9 = nI (chF t9 true) from rfl) ?_
            refine lv_goto (tgt := 167) hx hb dX4_come_158 (by decide) ?_
            refine m_top (show nI (chF t9 true) = nI (chF t9 fig) from by rw [c_149]) ?_
            exact K H locs hI
        have hch := chF_le t9 ht32 fig
        have h54 : chF t9 fig ≠ 54 := chF_54 t9 ht32 c_53 fig
        refine lv_istore_n (lv' := [(3, .int (nI (chF t9 fig))), (2, .int (nI t9)), (0, .ref aS), (1, .int (nI co))]) hx hb dX4_come_167 rfl hl (by decide) rfl (fun ls hl => ?_)
        refine lv_iload_n hx hb dX4_come_168 rfl (lv_at hl 0 rfl) ?_
        refine m_zleN (tgt := 230) hx hb (by omega) dX4_come_169 (by decide) (fun c_169 => ?_) (fun c_169 => ?_)
        · refine lv_aload_n hx hb dX4_come_230 rfl (lv_at hl 2 rfl) ?_
          refine lv_aload_n hx hb dX4_come_231 rfl (lv_at hl 2 rfl) ?_
          refine lv_aload_n hx hb dX4_come_232 rfl (lv_at hl 2 rfl) ?_
          refine m_stk (show ([.ref aS, .ref aS, .ref aS] : List Value) = [.ref (ad 50), .ref aS, .ref aS] from by rw [haS]) ?_
          refine m_get (ci := 4) (C := RX4) (T := TX4) (N' := 14) hx hb hts (by decide +kernel) hown hE hI 50 (by omega) (show g22 50 = .inr (4, [.ref (ad 51), .ref (ad 52), .ref (ad 53), .int (bI fig), .int (bI uns), .int (nI play), .ref (ad 54), .ref (ad 55), .ref (ad 56), .int (nI rd), .int (nI (came + 1)), .int mis, .int lost, .int (bel + 1)]) from hS.2.1) rfl 3 (by decide) (hts (.fieldLink RX4 57 "TapePrinterLaw$Sim" "isFigures" "Z") (by decide +kernel)) rfl dX4_come_233 ?_
          refine lv_iload_n hx hb dX4_come_236 rfl (lv_at hl 1 rfl) ?_
          refine m_stk (show ([.int (nI t9), .int (bI fig), .ref aS, .ref aS] : List Value) = [.int (nI t9), .int (bI fig), .ref (ad 50), .ref aS] from by rw [haS]) ?_
          refine m_callVi (As := [.int (bI fig), .int (nI t9)]) (rest := [.ref aS]) ⟨hx, hb, hml, hown, hts⟩ hE hI (c_X4_after k l ad N g22 _ uns play rd n lat gar T (came + 1) mis lost (bel + 1) fig u ln pg bs fig t9 (by omega) hS) (cwV 2 hts gX4_come_X4_after rfl rfl rfl (by decide +kernel) ⟨Nat.le_of_ble_eq_true rfl, Nat.le_of_ble_eq_true rfl⟩) (i := 50) (by omega) (show g22 50 = .inr (4, [.ref (ad 51), .ref (ad 52), .ref (ad 53), .int (bI fig), .int (bI uns), .int (nI play), .ref (ad 54), .ref (ad 55), .ref (ad 56), .int (nI rd), .int (nI (came + 1)), .int mis, .int lost, .int (bel + 1)]) from hS.2.1) rfl rfl hl.1 rfl (Nat.le_of_ble_eq_true rfl) dX4_come_237 ⟨(by show _ ≤ 4; omega), (by show _ ≤ 70; omega)⟩ (m_deti (fun H locs hI => ?_))
          refine m_stk (show ([.int (bI (fb uns t9 fig)), .ref aS] : List Value) = [.int (bI (fb uns t9 fig)), .ref (ad 50)] from by rw [haS]) ?_
          refine m_put (ci := 4) (C := RX4) (T := TX4) (N' := 14) (ty := .boolean) hx hb hts (by decide +kernel) tyX4 tyX4_ok nmX4 hown hE hI 50 (by omega) (show g22 50 = .inr (4, [.ref (ad 51), .ref (ad 52), .ref (ad 53), .int (bI fig), .int (bI uns), .int (nI play), .ref (ad 54), .ref (ad 55), .ref (ad 56), .int (nI rd), .int (nI (came + 1)), .int mis, .int lost, .int (bel + 1)]) from hS.2.1) rfl 3 (by decide) (hts (.fieldLink RX4 57 "TapePrinterLaw$Sim" "isFigures" "Z") (by decide +kernel)) rfl (by decide +kernel) (bI_nar _) (bI_fit _) (Nat.le_of_ble_eq_true rfl) dX4_come_240 (fun H locs hI => ?_)
          obtain ⟨g23, hg23⟩ : ∃ zz, zz = va_up g22 50 (.inr (4, [.ref (ad 51), .ref (ad 52), .ref (ad 53), .int (bI (fb uns t9 fig)), .int (bI uns), .int (nI play), .ref (ad 54), .ref (ad 55), .ref (ad 56), .int (nI rd), .int (nI (came + 1)), .int mis, .int lost, .int (bel + 1)])) := ⟨_, rfl⟩
          replace hI : mI k ad N g23 (mA ad N s.heap.size) s H locs := by rw [hg23]; exact hI
          have hS : SR k ad bs N g23 uns play rd n lat gar T (came + 1, mis, lost, bel + 1, fb uns t9 fig, u, ln, pg) := by rw [hg23]; exact SR.obj hS
          have hF : FRA ad g bs ad g23 := by rw [hg23]; exact FRA.up hF (by omega)
          have hG0 : ∀ i, i < 50 → g23 i = g i := fun i hi => by rw [hg23]; exact (va_up_ne _ _ (by omega)).trans (hG0 i hi)
          refine lv_iload_n hx hb dX4_come_243 rfl (lv_at hl 1 rfl) ?_
          have hl9 : lOb sFull (chF t9 fig) (u, ln, pg) lost = lost := by unfold lOb; rw [if_neg h54, if_pos c_169]
          have hp9 : pOb sNl sFull sAdd (chF t9 fig) (u, ln, pg) = (u, ln, pg) := by unfold pOb; rw [if_neg h54, if_pos c_169]
          have hy : yIn sNl sFull sAdd uns play lat gar co (came, mis, lost, bel, fig, u, ln, pg) = (came + 1, mis, lost, bel + 1, fb uns t9 fig, (u, ln, pg)) := by
            show (came + 1, (if rdY play lat gar came co = co then mis else mis + 1), lOb sFull (chF (rdY play lat gar came co) fig) (u, ln, pg) lost, (if rdY play lat gar came co = 8 then bel + 1 else bel), fb uns (rdY play lat gar came co) fig, pOb sNl sFull sAdd (chF (rdY play lat gar came co) fig) (u, ln, pg)) = _
            rw [← ht9, if_pos c_22, if_pos c_38, hl9, hp9]
          exact m_giret hx hb hr hlocks hE hI (post := fun (r : Int32) (ad1 : Nat → Nat) (N1 : Nat) (g1 : Nat → va_E) => r = nI (rdY play lat gar came co) ∧ FRA ad g bs ad1 g1 ∧ (∀ i, i < 50 → g1 i = g i) ∧ SR k ad1 bs N1 g1 uns play rd n lat gar T (yIn sNl sFull sAdd uns play lat gar co (came, mis, lost, bel, fig, u, ln, pg))) (v := nI t9) (⟨by rw [ht9], hF, hG0, by rw [hy]; exact hS⟩) (by omega) (by omega) dX4_come_244
        · refine lv_iload_n hx hb dX4_come_172 rfl (lv_at hl 1 rfl) ?_
          refine lv_iconst (v := nI 2) hx hb dX4_come_173 (by decide) ?_
          refine m_ceqN (tgt := 230) hx hb (by omega) (by omega) dX4_come_174 (by decide) (fun c_174 => ?_) (fun c_174 => ?_)
          · exact (show False by omega).elim
          · refine lv_aload_n hx hb dX4_come_177 rfl (lv_at hl 2 rfl) ?_
            refine m_stk (show ([.ref aS] : List Value) = [.ref (ad 50)] from by rw [haS]) ?_
            refine m_get (ci := 4) (C := RX4) (T := TX4) (N' := 14) hx hb hts (by decide +kernel) hown hE hI 50 (by omega) (show g22 50 = .inr (4, [.ref (ad 51), .ref (ad 52), .ref (ad 53), .int (bI fig), .int (bI uns), .int (nI play), .ref (ad 54), .ref (ad 55), .ref (ad 56), .int (nI rd), .int (nI (came + 1)), .int mis, .int lost, .int (bel + 1)]) from hS.2.1) rfl 2 (by decide) (hts (.fieldLink RX4 23 "TapePrinterLaw$Sim" "page" "[[I") (by decide +kernel)) rfl dX4_come_178 ?_
            refine m_alen2 hx hb hE hI 53 (by omega) (show g22 53 = .inl (k.2.1.2.2.2, u, .inr (.inr (.inr (.inr (pgF ad bs u))))) from hS.2.2.2.2.1) dX4_come_181 ?_
            refine lv_iconst (v := nI 1) hx hb dX4_come_182 (by decide) ?_
            refine m_isubN hx hb (by omega) dX4_come_183 ?_
            refine lv_istore (lv' := [(4, .int (nI (u - 1))), (3, .int (nI (chF t9 fig))), (2, .int (nI t9)), (0, .ref aS), (1, .int (nI co))]) hx hb dX4_come_184 hl (by decide) rfl (fun ls hl => ?_)
            refine lv_aload_n hx hb dX4_come_186 rfl (lv_at hl 3 rfl) ?_
            refine m_stk (show ([.ref aS] : List Value) = [.ref (ad 50)] from by rw [haS]) ?_
            refine m_get (ci := 4) (C := RX4) (T := TX4) (N' := 14) hx hb hts (by decide +kernel) hown hE hI 50 (by omega) (show g22 50 = .inr (4, [.ref (ad 51), .ref (ad 52), .ref (ad 53), .int (bI fig), .int (bI uns), .int (nI play), .ref (ad 54), .ref (ad 55), .ref (ad 56), .int (nI rd), .int (nI (came + 1)), .int mis, .int lost, .int (bel + 1)]) from hS.2.1) rfl 2 (by decide) (hts (.fieldLink RX4 23 "TapePrinterLaw$Sim" "page" "[[I") (by decide +kernel)) rfl dX4_come_187 ?_
            refine lv_iload hx hb dX4_come_190 (lv_at hl 0 rfl) ?_
            refine m_ald2 hx hb hE hI 53 (by omega) (j := u - 1) (show g22 53 = .inl (k.2.1.2.2.2, u, .inr (.inr (.inr (.inr (pgF ad bs u))))) from hS.2.2.2.2.1) (by omega) (by omega) dX4_come_192 ?_
            refine m_rf (pgF_in (by omega)) ?_
            have pr_5 : g22 (bs + (u - 1)) = .inl (k.2.1.1, ln (u - 1), .inl (fun i => nI (pg (u - 1) i))) := hS.2.2.2.2.2.2.2.2 (u - 1) (show u - 1 < u by omega)
            refine m_aleni hx hb hE hI (bs + (u - 1)) (by omega) pr_5 dX4_come_193 ?_
            refine lv_bipush (v := nI 40) hx hb dX4_come_194 (by decide) ?_
            refine m_cneN (tgt := 212) hx hb (by omega) (by omega) dX4_come_196 (by decide) (fun c_196 => ?_) (fun c_196 => ?_)
            · refine lv_aload_n hx hb dX4_come_212 rfl (lv_at hl 3 rfl) ?_
              refine m_stk (show ([.ref aS] : List Value) = [.ref (ad 50)] from by rw [haS]) ?_
              refine m_get (ci := 4) (C := RX4) (T := TX4) (N' := 14) hx hb hts (by decide +kernel) hown hE hI 50 (by omega) (show g22 50 = .inr (4, [.ref (ad 51), .ref (ad 52), .ref (ad 53), .int (bI fig), .int (bI uns), .int (nI play), .ref (ad 54), .ref (ad 55), .ref (ad 56), .int (nI rd), .int (nI (came + 1)), .int mis, .int lost, .int (bel + 1)]) from hS.2.1) rfl 2 (by decide) (hts (.fieldLink RX4 23 "TapePrinterLaw$Sim" "page" "[[I") (by decide +kernel)) rfl dX4_come_213 ?_
              refine lv_iload hx hb dX4_come_216 (lv_at hl 0 rfl) ?_
              refine lv_aload_n hx hb dX4_come_218 rfl (lv_at hl 3 rfl) ?_
              refine m_stk (show ([.ref aS, .int (nI (u - 1)), .ref (ad 53)] : List Value) = [.ref (ad 50), .int (nI (u - 1)), .ref (ad 53)] from by rw [haS]) ?_
              refine m_get (ci := 4) (C := RX4) (T := TX4) (N' := 14) hx hb hts (by decide +kernel) hown hE hI 50 (by omega) (show g22 50 = .inr (4, [.ref (ad 51), .ref (ad 52), .ref (ad 53), .int (bI fig), .int (bI uns), .int (nI play), .ref (ad 54), .ref (ad 55), .ref (ad 56), .int (nI rd), .int (nI (came + 1)), .int mis, .int lost, .int (bel + 1)]) from hS.2.1) rfl 2 (by decide) (hts (.fieldLink RX4 23 "TapePrinterLaw$Sim" "page" "[[I") (by decide +kernel)) rfl dX4_come_219 ?_
              refine lv_iload hx hb dX4_come_222 (lv_at hl 0 rfl) ?_
              refine m_ald2 hx hb hE hI 53 (by omega) (j := u - 1) (show g22 53 = .inl (k.2.1.2.2.2, u, .inr (.inr (.inr (.inr (pgF ad bs u))))) from hS.2.2.2.2.1) (by omega) (by omega) dX4_come_224 ?_
              refine m_rf (pgF_in (by omega)) ?_
              have pr_6 : g22 (bs + (u - 1)) = .inl (k.2.1.1, ln (u - 1), .inl (fun i => nI (pg (u - 1) i))) := hS.2.2.2.2.2.2.2.2 (u - 1) (show u - 1 < u by omega)
              refine lv_iload_n hx hb dX4_come_225 rfl (lv_at hl 1 rfl) ?_
              refine m_callSgq (As := [.ref (ad (bs + (u - 1))), .int (nI (chF t9 fig))]) (rest := [.int (nI (u - 1)), .ref (ad 53)]) (c1 := 2) (s1 := 5 + ((ln (u - 1)) + 1)) ⟨hx, hb, hml, hown, hts⟩ hE hI (c_X4_more k l ad N g22 _ (bs + (u - 1)) (ln (u - 1)) (fun i => nI (pg (u - 1) i)) (fun i => nI (va_up (pg (u - 1)) (ln (u - 1)) (chF t9 fig) i)) (nI (chF t9 fig)) (by omega) (by omega) pr_6 (fun j hj => by rw [va_up_ne _ _ (by omega)]) (by rw [va_up_self])) (va_cwS 2 hts gX4_come_X4_more rfl rfl rfl (by decide +kernel) ⟨Nat.le_of_ble_eq_true rfl, Nat.le_of_ble_eq_true rfl⟩) rfl hl.1 rfl (Nat.le_of_ble_eq_true rfl) dX4_come_226 (by omega) (by omega) ⟨(by show _ ≤ 4; omega), (by show _ ≤ 70; omega)⟩ (fun r9 ad6 N6 g9 H locs hp hE hI => ?_)
              obtain ⟨g24, hg24⟩ : ∃ zz, zz = g9 := ⟨_, rfl⟩
              rw [← hg24] at hp hI
              obtain ⟨hr6, hn6, hag6, hgg6, hnw6⟩ := hp
              subst hn6
              have hE : mE k ad6 (N + 1) (mA ad N s.heap.size) s := hE
              have hI : mI k ad6 (N + 1) g24 (mA ad N s.heap.size) s H locs := hI
              subst hr6
              replace hgg6 : ∀ i, i < N → g24 i = g22 i := hgg6
              have haS : ad6 50 = aS := by rw [hag6 50 (by omega)]; exact haS
              have hS : SR k ad6 bs (N + 1) g24 uns play rd n lat gar T (came + 1, mis, lost, bel + 1, fig, u, ln, pg) := SR.grow hS (by omega) (fun i hi => hag6 i (by omega)) (fun i hi => hgg6 i (by omega))
              have hF : FRA ad g bs ad6 g24 := FRA.go hF (FRA.of (N := N) (by omega) (by omega) (fun i hi => hag6 i (by omega)) (fun i hi => hgg6 i (by omega)))
              have hG0 : ∀ i, i < 50 → g24 i = g i := fun i hi => (hgg6 i (by omega)).trans (hG0 i hi)
              have hnw6 : g24 N = .inl (k.2.1.1, ((ln (u - 1)) + 1), .inl (fun i => nI (va_up (pg (u - 1)) (ln (u - 1)) (chF t9 fig) i))) := hnw6
              show W p l e _ s m _ below meth c _ _ _ _ _ (F0 m _ _ (.ref (ad6 N) :: _))
              refine m_stk (show ([.ref (ad6 N), .int (nI (u - 1)), .ref (ad 53)] : List Value) = [.ref (ad6 N), .int (nI (u - 1)), .ref (ad6 53)] from by rw [hag6 53 (by omega)]) ?_
              refine m_ast2 hx hb hE hI 53 N (by omega) (by omega) (j := u - 1) (show g24 53 = .inl (k.2.1.2.2.2, u, .inr (.inr (.inr (.inr (pgF ad6 bs u))))) from hS.2.2.2.2.1) hnw6 (by omega) (by omega) dX4_come_229 (fun H locs hI => ?_)
              obtain ⟨adP, gP, hE, hI, hFP, hGP, hS⟩ := SR.row N (chF t9 fig) hE hI hS hu0 (by omega) hnw6
              obtain ⟨g25, hg25⟩ : ∃ zz, zz = gP := ⟨_, rfl⟩
              rw [← hg25] at hI hFP hGP hS
              have hE : mE k adP (bs + u) (mA ad N s.heap.size) s := hE
              have hI : mI k adP (bs + u) g25 (mA ad N s.heap.size) s H locs := hI
              have hS : SR k adP bs (bs + u) g25 uns play rd n lat gar T (came + 1, mis, lost, bel + 1, fig, u, va_up ln (u - 1) (ln (u - 1) + 1), va_up pg (u - 1) (va_up (pg (u - 1)) (ln (u - 1)) (chF t9 fig))) := hS
              have hF : FRA ad g bs adP g25 := FRA.go hF hFP
              have hG0 : ∀ i, i < 50 → g25 i = g i := fun i hi => (hGP i hi).trans (hG0 i hi)
              have haS : adP 50 = aS := (hFP.1 50 (by omega)).trans haS
              have hl : lv_has ls 6 [(4, .int (nI (u - 1))), (3, .int (nI (chF t9 fig))), (2, .int (nI t9)), (0, .ref aS), (1, .int (nI co))] := lv_sub hl [0, 1, 2, 3, 4] rfl
              refine lv_aload_n hx hb dX4_come_230 rfl (lv_at hl 3 rfl) ?_
              refine lv_aload_n hx hb dX4_come_231 rfl (lv_at hl 3 rfl) ?_
              refine lv_aload_n hx hb dX4_come_232 rfl (lv_at hl 3 rfl) ?_
              refine m_stk (show ([.ref aS, .ref aS, .ref aS] : List Value) = [.ref (adP 50), .ref aS, .ref aS] from by rw [haS]) ?_
              refine m_get (ci := 4) (C := RX4) (T := TX4) (N' := 14) hx hb hts (by decide +kernel) hown hE hI 50 (by omega) (show g25 50 = .inr (4, [.ref (adP 51), .ref (adP 52), .ref (adP 53), .int (bI fig), .int (bI uns), .int (nI play), .ref (adP 54), .ref (adP 55), .ref (adP 56), .int (nI rd), .int (nI (came + 1)), .int mis, .int lost, .int (bel + 1)]) from hS.2.1) rfl 3 (by decide) (hts (.fieldLink RX4 57 "TapePrinterLaw$Sim" "isFigures" "Z") (by decide +kernel)) rfl dX4_come_233 ?_
              refine lv_iload_n hx hb dX4_come_236 rfl (lv_at hl 2 rfl) ?_
              refine m_stk (show ([.int (nI t9), .int (bI fig), .ref aS, .ref aS] : List Value) = [.int (nI t9), .int (bI fig), .ref (adP 50), .ref aS] from by rw [haS]) ?_
              refine m_callVi (As := [.int (bI fig), .int (nI t9)]) (rest := [.ref aS]) ⟨hx, hb, hml, hown, hts⟩ hE hI (c_X4_after k l adP (bs + u) g25 _ uns play rd n lat gar T (came + 1) mis lost (bel + 1) fig u (va_up ln (u - 1) (ln (u - 1) + 1)) (va_up pg (u - 1) (va_up (pg (u - 1)) (ln (u - 1)) (chF t9 fig))) bs fig t9 (by omega) hS) (cwV 2 hts gX4_come_X4_after rfl rfl rfl (by decide +kernel) ⟨Nat.le_of_ble_eq_true rfl, Nat.le_of_ble_eq_true rfl⟩) (i := 50) (by omega) (show g25 50 = .inr (4, [.ref (adP 51), .ref (adP 52), .ref (adP 53), .int (bI fig), .int (bI uns), .int (nI play), .ref (adP 54), .ref (adP 55), .ref (adP 56), .int (nI rd), .int (nI (came + 1)), .int mis, .int lost, .int (bel + 1)]) from hS.2.1) rfl rfl hl.1 rfl (Nat.le_of_ble_eq_true rfl) dX4_come_237 ⟨(by show _ ≤ 4; omega), (by show _ ≤ 70; omega)⟩ (m_deti (fun H locs hI => ?_))
              refine m_stk (show ([.int (bI (fb uns t9 fig)), .ref aS] : List Value) = [.int (bI (fb uns t9 fig)), .ref (adP 50)] from by rw [haS]) ?_
              refine m_put (ci := 4) (C := RX4) (T := TX4) (N' := 14) (ty := .boolean) hx hb hts (by decide +kernel) tyX4 tyX4_ok nmX4 hown hE hI 50 (by omega) (show g25 50 = .inr (4, [.ref (adP 51), .ref (adP 52), .ref (adP 53), .int (bI fig), .int (bI uns), .int (nI play), .ref (adP 54), .ref (adP 55), .ref (adP 56), .int (nI rd), .int (nI (came + 1)), .int mis, .int lost, .int (bel + 1)]) from hS.2.1) rfl 3 (by decide) (hts (.fieldLink RX4 57 "TapePrinterLaw$Sim" "isFigures" "Z") (by decide +kernel)) rfl (by decide +kernel) (bI_nar _) (bI_fit _) (Nat.le_of_ble_eq_true rfl) dX4_come_240 (fun H locs hI => ?_)
              obtain ⟨g26, hg26⟩ : ∃ zz, zz = va_up g25 50 (.inr (4, [.ref (adP 51), .ref (adP 52), .ref (adP 53), .int (bI (fb uns t9 fig)), .int (bI uns), .int (nI play), .ref (adP 54), .ref (adP 55), .ref (adP 56), .int (nI rd), .int (nI (came + 1)), .int mis, .int lost, .int (bel + 1)])) := ⟨_, rfl⟩
              replace hI : mI k adP (bs + u) g26 (mA ad N s.heap.size) s H locs := by rw [hg26]; exact hI
              have hS : SR k adP bs (bs + u) g26 uns play rd n lat gar T (came + 1, mis, lost, bel + 1, fb uns t9 fig, u, va_up ln (u - 1) (ln (u - 1) + 1), va_up pg (u - 1) (va_up (pg (u - 1)) (ln (u - 1)) (chF t9 fig))) := by rw [hg26]; exact SR.obj hS
              have hF : FRA ad g bs adP g26 := by rw [hg26]; exact FRA.up hF (by omega)
              have hG0 : ∀ i, i < 50 → g26 i = g i := fun i hi => by rw [hg26]; exact (va_up_ne _ _ (by omega)).trans (hG0 i hi)
              refine lv_iload_n hx hb dX4_come_243 rfl (lv_at hl 2 rfl) ?_
              have hfu : sFull (u, ln, pg) = false := decide_eq_false c_196
              have hl9 : lOb sFull (chF t9 fig) (u, ln, pg) lost = lost := by unfold lOb; rw [if_neg h54, if_neg (by omega), hfu] <;> rfl
              have hp9 : pOb sNl sFull sAdd (chF t9 fig) (u, ln, pg) = (u, va_up ln (u - 1) (ln (u - 1) + 1), va_up pg (u - 1) (va_up (pg (u - 1)) (ln (u - 1)) (chF t9 fig))) := by unfold pOb; rw [if_neg h54, if_neg (by omega), hfu] <;> rfl
              have hy : yIn sNl sFull sAdd uns play lat gar co (came, mis, lost, bel, fig, u, ln, pg) = (came + 1, mis, lost, bel + 1, fb uns t9 fig, (u, va_up ln (u - 1) (ln (u - 1) + 1), va_up pg (u - 1) (va_up (pg (u - 1)) (ln (u - 1)) (chF t9 fig)))) := by
                show (came + 1, (if rdY play lat gar came co = co then mis else mis + 1), lOb sFull (chF (rdY play lat gar came co) fig) (u, ln, pg) lost, (if rdY play lat gar came co = 8 then bel + 1 else bel), fb uns (rdY play lat gar came co) fig, pOb sNl sFull sAdd (chF (rdY play lat gar came co) fig) (u, ln, pg)) = _
                rw [← ht9, if_pos c_22, if_pos c_38, hl9, hp9]
              exact m_giret hx hb hr hlocks hE hI (post := fun (r : Int32) (ad1 : Nat → Nat) (N1 : Nat) (g1 : Nat → va_E) => r = nI (rdY play lat gar came co) ∧ FRA ad g bs ad1 g1 ∧ (∀ i, i < 50 → g1 i = g i) ∧ SR k ad1 bs N1 g1 uns play rd n lat gar T (yIn sNl sFull sAdd uns play lat gar co (came, mis, lost, bel, fig, u, ln, pg))) (v := nI t9) (⟨by rw [ht9], hF, hG0, by rw [hy]; exact hS⟩) (by omega) (by omega) dX4_come_244
            · refine lv_aload_n hx hb dX4_come_199 rfl (lv_at hl 3 rfl) ?_
              refine lv_dup hx hb dX4_come_200 rfl ?_
              refine m_stk (show ([.ref aS, .ref aS] : List Value) = [.ref (ad 50), .ref aS] from by rw [haS]) ?_
              refine m_get (ci := 4) (C := RX4) (T := TX4) (N' := 14) hx hb hts (by decide +kernel) hown hE hI 50 (by omega) (show g22 50 = .inr (4, [.ref (ad 51), .ref (ad 52), .ref (ad 53), .int (bI fig), .int (bI uns), .int (nI play), .ref (ad 54), .ref (ad 55), .ref (ad 56), .int (nI rd), .int (nI (came + 1)), .int mis, .int lost, .int (bel + 1)]) from hS.2.1) rfl 12 (by decide) (hts (.fieldLink RX4 60 "TapePrinterLaw$Sim" "lost" "I") (by decide +kernel)) rfl dX4_come_201 ?_
              refine lv_iconst (v := nI 1) hx hb dX4_come_204 (by decide) ?_
              refine lv_iadd hx hb dX4_come_205 ?_
              refine m_top (show lost + (nI 1) = lost + 1 from rfl) ?_
              refine m_stk (show ([.int (lost + 1), .ref aS] : List Value) = [.int (lost + 1), .ref (ad 50)] from by rw [haS]) ?_
              refine m_put (ci := 4) (C := RX4) (T := TX4) (N' := 14) (ty := .int) hx hb hts (by decide +kernel) tyX4 tyX4_ok nmX4 hown hE hI 50 (by omega) (show g22 50 = .inr (4, [.ref (ad 51), .ref (ad 52), .ref (ad 53), .int (bI fig), .int (bI uns), .int (nI play), .ref (ad 54), .ref (ad 55), .ref (ad 56), .int (nI rd), .int (nI (came + 1)), .int mis, .int lost, .int (bel + 1)]) from hS.2.1) rfl 12 (by decide) (hts (.fieldLink RX4 60 "TapePrinterLaw$Sim" "lost" "I") (by decide +kernel)) rfl (by decide +kernel) rfl rfl (Nat.le_of_ble_eq_true rfl) dX4_come_206 (fun H locs hI => ?_)
              obtain ⟨g27, hg27⟩ : ∃ zz, zz = va_up g22 50 (.inr (4, [.ref (ad 51), .ref (ad 52), .ref (ad 53), .int (bI fig), .int (bI uns), .int (nI play), .ref (ad 54), .ref (ad 55), .ref (ad 56), .int (nI rd), .int (nI (came + 1)), .int mis, .int (lost + 1), .int (bel + 1)])) := ⟨_, rfl⟩
              replace hI : mI k ad N g27 (mA ad N s.heap.size) s H locs := by rw [hg27]; exact hI
              have hS : SR k ad bs N g27 uns play rd n lat gar T (came + 1, mis, lost + 1, bel + 1, fig, u, ln, pg) := by rw [hg27]; exact SR.obj hS
              have hF : FRA ad g bs ad g27 := by rw [hg27]; exact FRA.up hF (by omega)
              have hG0 : ∀ i, i < 50 → g27 i = g i := fun i hi => by rw [hg27]; exact (va_up_ne _ _ (by omega)).trans (hG0 i hi)
              refine lv_goto (tgt := 230) hx hb dX4_come_209 (by decide) ?_
              refine lv_aload_n hx hb dX4_come_230 rfl (lv_at hl 3 rfl) ?_
              refine lv_aload_n hx hb dX4_come_231 rfl (lv_at hl 3 rfl) ?_
              refine lv_aload_n hx hb dX4_come_232 rfl (lv_at hl 3 rfl) ?_
              refine m_stk (show ([.ref aS, .ref aS, .ref aS] : List Value) = [.ref (ad 50), .ref aS, .ref aS] from by rw [haS]) ?_
              refine m_get (ci := 4) (C := RX4) (T := TX4) (N' := 14) hx hb hts (by decide +kernel) hown hE hI 50 (by omega) (show g27 50 = .inr (4, [.ref (ad 51), .ref (ad 52), .ref (ad 53), .int (bI fig), .int (bI uns), .int (nI play), .ref (ad 54), .ref (ad 55), .ref (ad 56), .int (nI rd), .int (nI (came + 1)), .int mis, .int (lost + 1), .int (bel + 1)]) from hS.2.1) rfl 3 (by decide) (hts (.fieldLink RX4 57 "TapePrinterLaw$Sim" "isFigures" "Z") (by decide +kernel)) rfl dX4_come_233 ?_
              refine lv_iload_n hx hb dX4_come_236 rfl (lv_at hl 2 rfl) ?_
              refine m_stk (show ([.int (nI t9), .int (bI fig), .ref aS, .ref aS] : List Value) = [.int (nI t9), .int (bI fig), .ref (ad 50), .ref aS] from by rw [haS]) ?_
              refine m_callVi (As := [.int (bI fig), .int (nI t9)]) (rest := [.ref aS]) ⟨hx, hb, hml, hown, hts⟩ hE hI (c_X4_after k l ad N g27 _ uns play rd n lat gar T (came + 1) mis (lost + 1) (bel + 1) fig u ln pg bs fig t9 (by omega) hS) (cwV 2 hts gX4_come_X4_after rfl rfl rfl (by decide +kernel) ⟨Nat.le_of_ble_eq_true rfl, Nat.le_of_ble_eq_true rfl⟩) (i := 50) (by omega) (show g27 50 = .inr (4, [.ref (ad 51), .ref (ad 52), .ref (ad 53), .int (bI fig), .int (bI uns), .int (nI play), .ref (ad 54), .ref (ad 55), .ref (ad 56), .int (nI rd), .int (nI (came + 1)), .int mis, .int (lost + 1), .int (bel + 1)]) from hS.2.1) rfl rfl hl.1 rfl (Nat.le_of_ble_eq_true rfl) dX4_come_237 ⟨(by show _ ≤ 4; omega), (by show _ ≤ 70; omega)⟩ (m_deti (fun H locs hI => ?_))
              refine m_stk (show ([.int (bI (fb uns t9 fig)), .ref aS] : List Value) = [.int (bI (fb uns t9 fig)), .ref (ad 50)] from by rw [haS]) ?_
              refine m_put (ci := 4) (C := RX4) (T := TX4) (N' := 14) (ty := .boolean) hx hb hts (by decide +kernel) tyX4 tyX4_ok nmX4 hown hE hI 50 (by omega) (show g27 50 = .inr (4, [.ref (ad 51), .ref (ad 52), .ref (ad 53), .int (bI fig), .int (bI uns), .int (nI play), .ref (ad 54), .ref (ad 55), .ref (ad 56), .int (nI rd), .int (nI (came + 1)), .int mis, .int (lost + 1), .int (bel + 1)]) from hS.2.1) rfl 3 (by decide) (hts (.fieldLink RX4 57 "TapePrinterLaw$Sim" "isFigures" "Z") (by decide +kernel)) rfl (by decide +kernel) (bI_nar _) (bI_fit _) (Nat.le_of_ble_eq_true rfl) dX4_come_240 (fun H locs hI => ?_)
              obtain ⟨g28, hg28⟩ : ∃ zz, zz = va_up g27 50 (.inr (4, [.ref (ad 51), .ref (ad 52), .ref (ad 53), .int (bI (fb uns t9 fig)), .int (bI uns), .int (nI play), .ref (ad 54), .ref (ad 55), .ref (ad 56), .int (nI rd), .int (nI (came + 1)), .int mis, .int (lost + 1), .int (bel + 1)])) := ⟨_, rfl⟩
              replace hI : mI k ad N g28 (mA ad N s.heap.size) s H locs := by rw [hg28]; exact hI
              have hS : SR k ad bs N g28 uns play rd n lat gar T (came + 1, mis, lost + 1, bel + 1, fb uns t9 fig, u, ln, pg) := by rw [hg28]; exact SR.obj hS
              have hF : FRA ad g bs ad g28 := by rw [hg28]; exact FRA.up hF (by omega)
              have hG0 : ∀ i, i < 50 → g28 i = g i := fun i hi => by rw [hg28]; exact (va_up_ne _ _ (by omega)).trans (hG0 i hi)
              refine lv_iload_n hx hb dX4_come_243 rfl (lv_at hl 2 rfl) ?_
              have hfu : sFull (u, ln, pg) = true := decide_eq_true c_196
              have hl9 : lOb sFull (chF t9 fig) (u, ln, pg) lost = lost + 1 := by unfold lOb; rw [if_neg h54, if_neg (by omega), hfu] <;> rfl
              have hp9 : pOb sNl sFull sAdd (chF t9 fig) (u, ln, pg) = (u, ln, pg) := by unfold pOb; rw [if_neg h54, if_neg (by omega), hfu] <;> rfl
              have hy : yIn sNl sFull sAdd uns play lat gar co (came, mis, lost, bel, fig, u, ln, pg) = (came + 1, mis, lost + 1, bel + 1, fb uns t9 fig, (u, ln, pg)) := by
                show (came + 1, (if rdY play lat gar came co = co then mis else mis + 1), lOb sFull (chF (rdY play lat gar came co) fig) (u, ln, pg) lost, (if rdY play lat gar came co = 8 then bel + 1 else bel), fb uns (rdY play lat gar came co) fig, pOb sNl sFull sAdd (chF (rdY play lat gar came co) fig) (u, ln, pg)) = _
                rw [← ht9, if_pos c_22, if_pos c_38, hl9, hp9]
              exact m_giret hx hb hr hlocks hE hI (post := fun (r : Int32) (ad1 : Nat → Nat) (N1 : Nat) (g1 : Nat → va_E) => r = nI (rdY play lat gar came co) ∧ FRA ad g bs ad1 g1 ∧ (∀ i, i < 50 → g1 i = g i) ∧ SR k ad1 bs N1 g1 uns play rd n lat gar T (yIn sNl sFull sAdd uns play lat gar co (came, mis, lost, bel, fig, u, ln, pg))) (v := nI t9) (⟨by rw [ht9], hF, hG0, by rw [hy]; exact hS⟩) (by omega) (by omega) dX4_come_244
      · exact (show False by omega).elim
  · refine lv_aload_n hx hb dX4_come_25 rfl (lv_at hl 1 rfl) ?_
    refine lv_dup hx hb dX4_come_26 rfl ?_
    refine m_stk (show ([.ref aS, .ref aS] : List Value) = [.ref (ad 50), .ref aS] from by rw [haS]) ?_
    refine m_get (ci := 4) (C := RX4) (T := TX4) (N' := 14) hx hb hts (by decide +kernel) hown hE hI 50 (by omega) (show g1 50 = .inr (4, [.ref (ad 51), .ref (ad 52), .ref (ad 53), .int (bI fig), .int (bI uns), .int (nI play), .ref (ad 54), .ref (ad 55), .ref (ad 56), .int (nI rd), .int (nI (came + 1)), .int mis, .int lost, .int bel]) from hS.2.1) rfl 11 (by decide) (hts (.fieldLink RX4 51 "TapePrinterLaw$Sim" "wrong" "I") (by decide +kernel)) rfl dX4_come_27 ?_
    refine lv_iconst (v := nI 1) hx hb dX4_come_30 (by decide) ?_
    refine lv_iadd hx hb dX4_come_31 ?_
    refine m_top (show mis + (nI 1) = mis + 1 from rfl) ?_
    refine m_stk (show ([.int (mis + 1), .ref aS] : List Value) = [.int (mis + 1), .ref (ad 50)] from by rw [haS]) ?_
    refine m_put (ci := 4) (C := RX4) (T := TX4) (N' := 14) (ty := .int) hx hb hts (by decide +kernel) tyX4 tyX4_ok nmX4 hown hE hI 50 (by omega) (show g1 50 = .inr (4, [.ref (ad 51), .ref (ad 52), .ref (ad 53), .int (bI fig), .int (bI uns), .int (nI play), .ref (ad 54), .ref (ad 55), .ref (ad 56), .int (nI rd), .int (nI (came + 1)), .int mis, .int lost, .int bel]) from hS.2.1) rfl 11 (by decide) (hts (.fieldLink RX4 51 "TapePrinterLaw$Sim" "wrong" "I") (by decide +kernel)) rfl (by decide +kernel) rfl rfl (Nat.le_of_ble_eq_true rfl) dX4_come_32 (fun H locs hI => ?_)
    obtain ⟨g29, hg29⟩ : ∃ zz, zz = va_up g1 50 (.inr (4, [.ref (ad 51), .ref (ad 52), .ref (ad 53), .int (bI fig), .int (bI uns), .int (nI play), .ref (ad 54), .ref (ad 55), .ref (ad 56), .int (nI rd), .int (nI (came + 1)), .int (mis + 1), .int lost, .int bel])) := ⟨_, rfl⟩
    replace hI : mI k ad N g29 (mA ad N s.heap.size) s H locs := by rw [hg29]; exact hI
    have hS : SR k ad bs N g29 uns play rd n lat gar T (came + 1, mis + 1, lost, bel, fig, u, ln, pg) := by rw [hg29]; exact SR.obj hS
    have hF : FRA ad g bs ad g29 := by rw [hg29]; exact FRA.up hF (by omega)
    have hG0 : ∀ i, i < 50 → g29 i = g i := fun i hi => by rw [hg29]; exact (va_up_ne _ _ (by omega)).trans (hG0 i hi)
    refine lv_iload_n hx hb dX4_come_35 rfl (lv_at hl 0 rfl) ?_
    refine lv_bipush (v := nI 8) hx hb dX4_come_36 (by decide) ?_
    refine m_cneN (tgt := 51) hx hb (by omega) (by omega) dX4_come_38 (by decide) (fun c_38 => ?_) (fun c_38 => ?_)
    · refine lv_iload_n hx hb dX4_come_51 rfl (lv_at hl 0 rfl) ?_
      refine lv_iconst (v := nI 2) hx hb dX4_come_52 (by decide) ?_
      refine m_cneN (tgt := 145) hx hb (by omega) (by omega) dX4_come_53 (by decide) (fun c_53 => ?_) (fun c_53 => ?_)
      · refine m_via hI 167 ([.int (nI (chF t9 fig))]) (fun K => ?_) (fun H locs hI => ?_)
        · refine lv_aload_n hx hb dX4_come_145 rfl (lv_at hl 1 rfl) ?_
          refine m_stk (show ([.ref aS] : List Value) = [.ref (ad 50)] from by rw [haS]) ?_
          refine m_get (ci := 4) (C := RX4) (T := TX4) (N' := 14) hx hb hts (by decide +kernel) hown hE hI 50 (by omega) (show g29 50 = .inr (4, [.ref (ad 51), .ref (ad 52), .ref (ad 53), .int (bI fig), .int (bI uns), .int (nI play), .ref (ad 54), .ref (ad 55), .ref (ad 56), .int (nI rd), .int (nI (came + 1)), .int (mis + 1), .int lost, .int bel]) from hS.2.1) rfl 3 (by decide) (hts (.fieldLink RX4 57 "TapePrinterLaw$Sim" "isFigures" "Z") (by decide +kernel)) rfl dX4_come_146 ?_
          refine m_zeqB (tgt := 161) hx hb dX4_come_149 (by decide) (fun c_149 => ?_) (fun c_149 => ?_)
          · refine lv_aload_n hx hb dX4_come_161 rfl (lv_at hl 1 rfl) ?_
            refine m_stk (show ([.ref aS] : List Value) = [.ref (ad 50)] from by rw [haS]) ?_
            refine m_get (ci := 4) (C := RX4) (T := TX4) (N' := 14) hx hb hts (by decide +kernel) hown hE hI 50 (by omega) (show g29 50 = .inr (4, [.ref (ad 51), .ref (ad 52), .ref (ad 53), .int (bI fig), .int (bI uns), .int (nI play), .ref (ad 54), .ref (ad 55), .ref (ad 56), .int (nI rd), .int (nI (came + 1)), .int (mis + 1), .int lost, .int bel]) from hS.2.1) rfl 0 (by decide) (hts (.fieldLink RX4 13 "TapePrinterLaw$Sim" "letters" "[I") (by decide +kernel)) rfl dX4_come_162 ?_
            refine lv_iload_n hx hb dX4_come_165 rfl (lv_at hl 0 rfl) ?_
            refine m_iald hx hb hE hI 51 (by omega) (j := t9) (show g29 51 = .inl (k.2.1.1, 32, .inl (fun j => nI (chF j false))) from hS.2.2.1) (by omega) (by omega) dX4_come_166 ?_
            refine m_top (show (fun j => nI (chF j false)) t9 = nI (chF t9 false) from rfl) ?_
            refine m_top (show nI (chF t9 false) = nI (chF t9 fig) from by rw [c_149]) ?_
            exact K H locs hI
          · refine lv_aload_n hx hb dX4_come_152 rfl (lv_at hl 1 rfl) ?_
            refine m_stk (show ([.ref aS] : List Value) = [.ref (ad 50)] from by rw [haS]) ?_
            refine m_get (ci := 4) (C := RX4) (T := TX4) (N' := 14) hx hb hts (by decide +kernel) hown hE hI 50 (by omega) (show g29 50 = .inr (4, [.ref (ad 51), .ref (ad 52), .ref (ad 53), .int (bI fig), .int (bI uns), .int (nI play), .ref (ad 54), .ref (ad 55), .ref (ad 56), .int (nI rd), .int (nI (came + 1)), .int (mis + 1), .int lost, .int bel]) from hS.2.1) rfl 1 (by decide) (hts (.fieldLink RX4 19 "TapePrinterLaw$Sim" "figures" "[I") (by decide +kernel)) rfl dX4_come_153 ?_
            refine lv_iload_n hx hb dX4_come_156 rfl (lv_at hl 0 rfl) ?_
            refine m_iald hx hb hE hI 52 (by omega) (j := t9) (show g29 52 = .inl (k.2.1.1, 32, .inl (fun j => nI (chF j true))) from hS.2.2.2.1) (by omega) (by omega) dX4_come_157 ?_
            refine m_top (show (fun j => nI (chF j true)) t9 = nI (chF t9 true) from rfl) ?_
            refine lv_goto (tgt := 167) hx hb dX4_come_158 (by decide) ?_
            refine m_top (show nI (chF t9 true) = nI (chF t9 fig) from by rw [c_149]) ?_
            exact K H locs hI
        have hch := chF_le t9 ht32 fig
        have h54 : chF t9 fig ≠ 54 := chF_54 t9 ht32 c_53 fig
        refine lv_istore_n (lv' := [(3, .int (nI (chF t9 fig))), (2, .int (nI t9)), (0, .ref aS), (1, .int (nI co))]) hx hb dX4_come_167 rfl hl (by decide) rfl (fun ls hl => ?_)
        refine lv_iload_n hx hb dX4_come_168 rfl (lv_at hl 0 rfl) ?_
        refine m_zleN (tgt := 230) hx hb (by omega) dX4_come_169 (by decide) (fun c_169 => ?_) (fun c_169 => ?_)
        · refine lv_aload_n hx hb dX4_come_230 rfl (lv_at hl 2 rfl) ?_
          refine lv_aload_n hx hb dX4_come_231 rfl (lv_at hl 2 rfl) ?_
          refine lv_aload_n hx hb dX4_come_232 rfl (lv_at hl 2 rfl) ?_
          refine m_stk (show ([.ref aS, .ref aS, .ref aS] : List Value) = [.ref (ad 50), .ref aS, .ref aS] from by rw [haS]) ?_
          refine m_get (ci := 4) (C := RX4) (T := TX4) (N' := 14) hx hb hts (by decide +kernel) hown hE hI 50 (by omega) (show g29 50 = .inr (4, [.ref (ad 51), .ref (ad 52), .ref (ad 53), .int (bI fig), .int (bI uns), .int (nI play), .ref (ad 54), .ref (ad 55), .ref (ad 56), .int (nI rd), .int (nI (came + 1)), .int (mis + 1), .int lost, .int bel]) from hS.2.1) rfl 3 (by decide) (hts (.fieldLink RX4 57 "TapePrinterLaw$Sim" "isFigures" "Z") (by decide +kernel)) rfl dX4_come_233 ?_
          refine lv_iload_n hx hb dX4_come_236 rfl (lv_at hl 1 rfl) ?_
          refine m_stk (show ([.int (nI t9), .int (bI fig), .ref aS, .ref aS] : List Value) = [.int (nI t9), .int (bI fig), .ref (ad 50), .ref aS] from by rw [haS]) ?_
          refine m_callVi (As := [.int (bI fig), .int (nI t9)]) (rest := [.ref aS]) ⟨hx, hb, hml, hown, hts⟩ hE hI (c_X4_after k l ad N g29 _ uns play rd n lat gar T (came + 1) (mis + 1) lost bel fig u ln pg bs fig t9 (by omega) hS) (cwV 2 hts gX4_come_X4_after rfl rfl rfl (by decide +kernel) ⟨Nat.le_of_ble_eq_true rfl, Nat.le_of_ble_eq_true rfl⟩) (i := 50) (by omega) (show g29 50 = .inr (4, [.ref (ad 51), .ref (ad 52), .ref (ad 53), .int (bI fig), .int (bI uns), .int (nI play), .ref (ad 54), .ref (ad 55), .ref (ad 56), .int (nI rd), .int (nI (came + 1)), .int (mis + 1), .int lost, .int bel]) from hS.2.1) rfl rfl hl.1 rfl (Nat.le_of_ble_eq_true rfl) dX4_come_237 ⟨(by show _ ≤ 4; omega), (by show _ ≤ 70; omega)⟩ (m_deti (fun H locs hI => ?_))
          refine m_stk (show ([.int (bI (fb uns t9 fig)), .ref aS] : List Value) = [.int (bI (fb uns t9 fig)), .ref (ad 50)] from by rw [haS]) ?_
          refine m_put (ci := 4) (C := RX4) (T := TX4) (N' := 14) (ty := .boolean) hx hb hts (by decide +kernel) tyX4 tyX4_ok nmX4 hown hE hI 50 (by omega) (show g29 50 = .inr (4, [.ref (ad 51), .ref (ad 52), .ref (ad 53), .int (bI fig), .int (bI uns), .int (nI play), .ref (ad 54), .ref (ad 55), .ref (ad 56), .int (nI rd), .int (nI (came + 1)), .int (mis + 1), .int lost, .int bel]) from hS.2.1) rfl 3 (by decide) (hts (.fieldLink RX4 57 "TapePrinterLaw$Sim" "isFigures" "Z") (by decide +kernel)) rfl (by decide +kernel) (bI_nar _) (bI_fit _) (Nat.le_of_ble_eq_true rfl) dX4_come_240 (fun H locs hI => ?_)
          obtain ⟨g30, hg30⟩ : ∃ zz, zz = va_up g29 50 (.inr (4, [.ref (ad 51), .ref (ad 52), .ref (ad 53), .int (bI (fb uns t9 fig)), .int (bI uns), .int (nI play), .ref (ad 54), .ref (ad 55), .ref (ad 56), .int (nI rd), .int (nI (came + 1)), .int (mis + 1), .int lost, .int bel])) := ⟨_, rfl⟩
          replace hI : mI k ad N g30 (mA ad N s.heap.size) s H locs := by rw [hg30]; exact hI
          have hS : SR k ad bs N g30 uns play rd n lat gar T (came + 1, mis + 1, lost, bel, fb uns t9 fig, u, ln, pg) := by rw [hg30]; exact SR.obj hS
          have hF : FRA ad g bs ad g30 := by rw [hg30]; exact FRA.up hF (by omega)
          have hG0 : ∀ i, i < 50 → g30 i = g i := fun i hi => by rw [hg30]; exact (va_up_ne _ _ (by omega)).trans (hG0 i hi)
          refine lv_iload_n hx hb dX4_come_243 rfl (lv_at hl 1 rfl) ?_
          have hl9 : lOb sFull (chF t9 fig) (u, ln, pg) lost = lost := by unfold lOb; rw [if_neg h54, if_pos c_169]
          have hp9 : pOb sNl sFull sAdd (chF t9 fig) (u, ln, pg) = (u, ln, pg) := by unfold pOb; rw [if_neg h54, if_pos c_169]
          have hy : yIn sNl sFull sAdd uns play lat gar co (came, mis, lost, bel, fig, u, ln, pg) = (came + 1, mis + 1, lost, bel, fb uns t9 fig, (u, ln, pg)) := by
            show (came + 1, (if rdY play lat gar came co = co then mis else mis + 1), lOb sFull (chF (rdY play lat gar came co) fig) (u, ln, pg) lost, (if rdY play lat gar came co = 8 then bel + 1 else bel), fb uns (rdY play lat gar came co) fig, pOb sNl sFull sAdd (chF (rdY play lat gar came co) fig) (u, ln, pg)) = _
            rw [← ht9, if_neg c_22, if_neg c_38, hl9, hp9]
          exact m_giret hx hb hr hlocks hE hI (post := fun (r : Int32) (ad1 : Nat → Nat) (N1 : Nat) (g1 : Nat → va_E) => r = nI (rdY play lat gar came co) ∧ FRA ad g bs ad1 g1 ∧ (∀ i, i < 50 → g1 i = g i) ∧ SR k ad1 bs N1 g1 uns play rd n lat gar T (yIn sNl sFull sAdd uns play lat gar co (came, mis, lost, bel, fig, u, ln, pg))) (v := nI t9) (⟨by rw [ht9], hF, hG0, by rw [hy]; exact hS⟩) (by omega) (by omega) dX4_come_244
        · refine lv_iload_n hx hb dX4_come_172 rfl (lv_at hl 1 rfl) ?_
          refine lv_iconst (v := nI 2) hx hb dX4_come_173 (by decide) ?_
          refine m_ceqN (tgt := 230) hx hb (by omega) (by omega) dX4_come_174 (by decide) (fun c_174 => ?_) (fun c_174 => ?_)
          · exact (show False by omega).elim
          · refine lv_aload_n hx hb dX4_come_177 rfl (lv_at hl 2 rfl) ?_
            refine m_stk (show ([.ref aS] : List Value) = [.ref (ad 50)] from by rw [haS]) ?_
            refine m_get (ci := 4) (C := RX4) (T := TX4) (N' := 14) hx hb hts (by decide +kernel) hown hE hI 50 (by omega) (show g29 50 = .inr (4, [.ref (ad 51), .ref (ad 52), .ref (ad 53), .int (bI fig), .int (bI uns), .int (nI play), .ref (ad 54), .ref (ad 55), .ref (ad 56), .int (nI rd), .int (nI (came + 1)), .int (mis + 1), .int lost, .int bel]) from hS.2.1) rfl 2 (by decide) (hts (.fieldLink RX4 23 "TapePrinterLaw$Sim" "page" "[[I") (by decide +kernel)) rfl dX4_come_178 ?_
            refine m_alen2 hx hb hE hI 53 (by omega) (show g29 53 = .inl (k.2.1.2.2.2, u, .inr (.inr (.inr (.inr (pgF ad bs u))))) from hS.2.2.2.2.1) dX4_come_181 ?_
            refine lv_iconst (v := nI 1) hx hb dX4_come_182 (by decide) ?_
            refine m_isubN hx hb (by omega) dX4_come_183 ?_
            refine lv_istore (lv' := [(4, .int (nI (u - 1))), (3, .int (nI (chF t9 fig))), (2, .int (nI t9)), (0, .ref aS), (1, .int (nI co))]) hx hb dX4_come_184 hl (by decide) rfl (fun ls hl => ?_)
            refine lv_aload_n hx hb dX4_come_186 rfl (lv_at hl 3 rfl) ?_
            refine m_stk (show ([.ref aS] : List Value) = [.ref (ad 50)] from by rw [haS]) ?_
            refine m_get (ci := 4) (C := RX4) (T := TX4) (N' := 14) hx hb hts (by decide +kernel) hown hE hI 50 (by omega) (show g29 50 = .inr (4, [.ref (ad 51), .ref (ad 52), .ref (ad 53), .int (bI fig), .int (bI uns), .int (nI play), .ref (ad 54), .ref (ad 55), .ref (ad 56), .int (nI rd), .int (nI (came + 1)), .int (mis + 1), .int lost, .int bel]) from hS.2.1) rfl 2 (by decide) (hts (.fieldLink RX4 23 "TapePrinterLaw$Sim" "page" "[[I") (by decide +kernel)) rfl dX4_come_187 ?_
            refine lv_iload hx hb dX4_come_190 (lv_at hl 0 rfl) ?_
            refine m_ald2 hx hb hE hI 53 (by omega) (j := u - 1) (show g29 53 = .inl (k.2.1.2.2.2, u, .inr (.inr (.inr (.inr (pgF ad bs u))))) from hS.2.2.2.2.1) (by omega) (by omega) dX4_come_192 ?_
            refine m_rf (pgF_in (by omega)) ?_
            have pr_7 : g29 (bs + (u - 1)) = .inl (k.2.1.1, ln (u - 1), .inl (fun i => nI (pg (u - 1) i))) := hS.2.2.2.2.2.2.2.2 (u - 1) (show u - 1 < u by omega)
            refine m_aleni hx hb hE hI (bs + (u - 1)) (by omega) pr_7 dX4_come_193 ?_
            refine lv_bipush (v := nI 40) hx hb dX4_come_194 (by decide) ?_
            refine m_cneN (tgt := 212) hx hb (by omega) (by omega) dX4_come_196 (by decide) (fun c_196 => ?_) (fun c_196 => ?_)
            · refine lv_aload_n hx hb dX4_come_212 rfl (lv_at hl 3 rfl) ?_
              refine m_stk (show ([.ref aS] : List Value) = [.ref (ad 50)] from by rw [haS]) ?_
              refine m_get (ci := 4) (C := RX4) (T := TX4) (N' := 14) hx hb hts (by decide +kernel) hown hE hI 50 (by omega) (show g29 50 = .inr (4, [.ref (ad 51), .ref (ad 52), .ref (ad 53), .int (bI fig), .int (bI uns), .int (nI play), .ref (ad 54), .ref (ad 55), .ref (ad 56), .int (nI rd), .int (nI (came + 1)), .int (mis + 1), .int lost, .int bel]) from hS.2.1) rfl 2 (by decide) (hts (.fieldLink RX4 23 "TapePrinterLaw$Sim" "page" "[[I") (by decide +kernel)) rfl dX4_come_213 ?_
              refine lv_iload hx hb dX4_come_216 (lv_at hl 0 rfl) ?_
              refine lv_aload_n hx hb dX4_come_218 rfl (lv_at hl 3 rfl) ?_
              refine m_stk (show ([.ref aS, .int (nI (u - 1)), .ref (ad 53)] : List Value) = [.ref (ad 50), .int (nI (u - 1)), .ref (ad 53)] from by rw [haS]) ?_
              refine m_get (ci := 4) (C := RX4) (T := TX4) (N' := 14) hx hb hts (by decide +kernel) hown hE hI 50 (by omega) (show g29 50 = .inr (4, [.ref (ad 51), .ref (ad 52), .ref (ad 53), .int (bI fig), .int (bI uns), .int (nI play), .ref (ad 54), .ref (ad 55), .ref (ad 56), .int (nI rd), .int (nI (came + 1)), .int (mis + 1), .int lost, .int bel]) from hS.2.1) rfl 2 (by decide) (hts (.fieldLink RX4 23 "TapePrinterLaw$Sim" "page" "[[I") (by decide +kernel)) rfl dX4_come_219 ?_
              refine lv_iload hx hb dX4_come_222 (lv_at hl 0 rfl) ?_
              refine m_ald2 hx hb hE hI 53 (by omega) (j := u - 1) (show g29 53 = .inl (k.2.1.2.2.2, u, .inr (.inr (.inr (.inr (pgF ad bs u))))) from hS.2.2.2.2.1) (by omega) (by omega) dX4_come_224 ?_
              refine m_rf (pgF_in (by omega)) ?_
              have pr_8 : g29 (bs + (u - 1)) = .inl (k.2.1.1, ln (u - 1), .inl (fun i => nI (pg (u - 1) i))) := hS.2.2.2.2.2.2.2.2 (u - 1) (show u - 1 < u by omega)
              refine lv_iload_n hx hb dX4_come_225 rfl (lv_at hl 1 rfl) ?_
              refine m_callSgq (As := [.ref (ad (bs + (u - 1))), .int (nI (chF t9 fig))]) (rest := [.int (nI (u - 1)), .ref (ad 53)]) (c1 := 2) (s1 := 5 + ((ln (u - 1)) + 1)) ⟨hx, hb, hml, hown, hts⟩ hE hI (c_X4_more k l ad N g29 _ (bs + (u - 1)) (ln (u - 1)) (fun i => nI (pg (u - 1) i)) (fun i => nI (va_up (pg (u - 1)) (ln (u - 1)) (chF t9 fig) i)) (nI (chF t9 fig)) (by omega) (by omega) pr_8 (fun j hj => by rw [va_up_ne _ _ (by omega)]) (by rw [va_up_self])) (va_cwS 2 hts gX4_come_X4_more rfl rfl rfl (by decide +kernel) ⟨Nat.le_of_ble_eq_true rfl, Nat.le_of_ble_eq_true rfl⟩) rfl hl.1 rfl (Nat.le_of_ble_eq_true rfl) dX4_come_226 (by omega) (by omega) ⟨(by show _ ≤ 4; omega), (by show _ ≤ 70; omega)⟩ (fun r9 ad7 N7 g9 H locs hp hE hI => ?_)
              obtain ⟨g31, hg31⟩ : ∃ zz, zz = g9 := ⟨_, rfl⟩
              rw [← hg31] at hp hI
              obtain ⟨hr7, hn7, hag7, hgg7, hnw7⟩ := hp
              subst hn7
              have hE : mE k ad7 (N + 1) (mA ad N s.heap.size) s := hE
              have hI : mI k ad7 (N + 1) g31 (mA ad N s.heap.size) s H locs := hI
              subst hr7
              replace hgg7 : ∀ i, i < N → g31 i = g29 i := hgg7
              have haS : ad7 50 = aS := by rw [hag7 50 (by omega)]; exact haS
              have hS : SR k ad7 bs (N + 1) g31 uns play rd n lat gar T (came + 1, mis + 1, lost, bel, fig, u, ln, pg) := SR.grow hS (by omega) (fun i hi => hag7 i (by omega)) (fun i hi => hgg7 i (by omega))
              have hF : FRA ad g bs ad7 g31 := FRA.go hF (FRA.of (N := N) (by omega) (by omega) (fun i hi => hag7 i (by omega)) (fun i hi => hgg7 i (by omega)))
              have hG0 : ∀ i, i < 50 → g31 i = g i := fun i hi => (hgg7 i (by omega)).trans (hG0 i hi)
              have hnw7 : g31 N = .inl (k.2.1.1, ((ln (u - 1)) + 1), .inl (fun i => nI (va_up (pg (u - 1)) (ln (u - 1)) (chF t9 fig) i))) := hnw7
              show W p l e _ s m _ below meth c _ _ _ _ _ (F0 m _ _ (.ref (ad7 N) :: _))
              refine m_stk (show ([.ref (ad7 N), .int (nI (u - 1)), .ref (ad 53)] : List Value) = [.ref (ad7 N), .int (nI (u - 1)), .ref (ad7 53)] from by rw [hag7 53 (by omega)]) ?_
              refine m_ast2 hx hb hE hI 53 N (by omega) (by omega) (j := u - 1) (show g31 53 = .inl (k.2.1.2.2.2, u, .inr (.inr (.inr (.inr (pgF ad7 bs u))))) from hS.2.2.2.2.1) hnw7 (by omega) (by omega) dX4_come_229 (fun H locs hI => ?_)
              obtain ⟨adP, gP, hE, hI, hFP, hGP, hS⟩ := SR.row N (chF t9 fig) hE hI hS hu0 (by omega) hnw7
              obtain ⟨g32, hg32⟩ : ∃ zz, zz = gP := ⟨_, rfl⟩
              rw [← hg32] at hI hFP hGP hS
              have hE : mE k adP (bs + u) (mA ad N s.heap.size) s := hE
              have hI : mI k adP (bs + u) g32 (mA ad N s.heap.size) s H locs := hI
              have hS : SR k adP bs (bs + u) g32 uns play rd n lat gar T (came + 1, mis + 1, lost, bel, fig, u, va_up ln (u - 1) (ln (u - 1) + 1), va_up pg (u - 1) (va_up (pg (u - 1)) (ln (u - 1)) (chF t9 fig))) := hS
              have hF : FRA ad g bs adP g32 := FRA.go hF hFP
              have hG0 : ∀ i, i < 50 → g32 i = g i := fun i hi => (hGP i hi).trans (hG0 i hi)
              have haS : adP 50 = aS := (hFP.1 50 (by omega)).trans haS
              have hl : lv_has ls 6 [(4, .int (nI (u - 1))), (3, .int (nI (chF t9 fig))), (2, .int (nI t9)), (0, .ref aS), (1, .int (nI co))] := lv_sub hl [0, 1, 2, 3, 4] rfl
              refine lv_aload_n hx hb dX4_come_230 rfl (lv_at hl 3 rfl) ?_
              refine lv_aload_n hx hb dX4_come_231 rfl (lv_at hl 3 rfl) ?_
              refine lv_aload_n hx hb dX4_come_232 rfl (lv_at hl 3 rfl) ?_
              refine m_stk (show ([.ref aS, .ref aS, .ref aS] : List Value) = [.ref (adP 50), .ref aS, .ref aS] from by rw [haS]) ?_
              refine m_get (ci := 4) (C := RX4) (T := TX4) (N' := 14) hx hb hts (by decide +kernel) hown hE hI 50 (by omega) (show g32 50 = .inr (4, [.ref (adP 51), .ref (adP 52), .ref (adP 53), .int (bI fig), .int (bI uns), .int (nI play), .ref (adP 54), .ref (adP 55), .ref (adP 56), .int (nI rd), .int (nI (came + 1)), .int (mis + 1), .int lost, .int bel]) from hS.2.1) rfl 3 (by decide) (hts (.fieldLink RX4 57 "TapePrinterLaw$Sim" "isFigures" "Z") (by decide +kernel)) rfl dX4_come_233 ?_
              refine lv_iload_n hx hb dX4_come_236 rfl (lv_at hl 2 rfl) ?_
              refine m_stk (show ([.int (nI t9), .int (bI fig), .ref aS, .ref aS] : List Value) = [.int (nI t9), .int (bI fig), .ref (adP 50), .ref aS] from by rw [haS]) ?_
              refine m_callVi (As := [.int (bI fig), .int (nI t9)]) (rest := [.ref aS]) ⟨hx, hb, hml, hown, hts⟩ hE hI (c_X4_after k l adP (bs + u) g32 _ uns play rd n lat gar T (came + 1) (mis + 1) lost bel fig u (va_up ln (u - 1) (ln (u - 1) + 1)) (va_up pg (u - 1) (va_up (pg (u - 1)) (ln (u - 1)) (chF t9 fig))) bs fig t9 (by omega) hS) (cwV 2 hts gX4_come_X4_after rfl rfl rfl (by decide +kernel) ⟨Nat.le_of_ble_eq_true rfl, Nat.le_of_ble_eq_true rfl⟩) (i := 50) (by omega) (show g32 50 = .inr (4, [.ref (adP 51), .ref (adP 52), .ref (adP 53), .int (bI fig), .int (bI uns), .int (nI play), .ref (adP 54), .ref (adP 55), .ref (adP 56), .int (nI rd), .int (nI (came + 1)), .int (mis + 1), .int lost, .int bel]) from hS.2.1) rfl rfl hl.1 rfl (Nat.le_of_ble_eq_true rfl) dX4_come_237 ⟨(by show _ ≤ 4; omega), (by show _ ≤ 70; omega)⟩ (m_deti (fun H locs hI => ?_))
              refine m_stk (show ([.int (bI (fb uns t9 fig)), .ref aS] : List Value) = [.int (bI (fb uns t9 fig)), .ref (adP 50)] from by rw [haS]) ?_
              refine m_put (ci := 4) (C := RX4) (T := TX4) (N' := 14) (ty := .boolean) hx hb hts (by decide +kernel) tyX4 tyX4_ok nmX4 hown hE hI 50 (by omega) (show g32 50 = .inr (4, [.ref (adP 51), .ref (adP 52), .ref (adP 53), .int (bI fig), .int (bI uns), .int (nI play), .ref (adP 54), .ref (adP 55), .ref (adP 56), .int (nI rd), .int (nI (came + 1)), .int (mis + 1), .int lost, .int bel]) from hS.2.1) rfl 3 (by decide) (hts (.fieldLink RX4 57 "TapePrinterLaw$Sim" "isFigures" "Z") (by decide +kernel)) rfl (by decide +kernel) (bI_nar _) (bI_fit _) (Nat.le_of_ble_eq_true rfl) dX4_come_240 (fun H locs hI => ?_)
              obtain ⟨g33, hg33⟩ : ∃ zz, zz = va_up g32 50 (.inr (4, [.ref (adP 51), .ref (adP 52), .ref (adP 53), .int (bI (fb uns t9 fig)), .int (bI uns), .int (nI play), .ref (adP 54), .ref (adP 55), .ref (adP 56), .int (nI rd), .int (nI (came + 1)), .int (mis + 1), .int lost, .int bel])) := ⟨_, rfl⟩
              replace hI : mI k adP (bs + u) g33 (mA ad N s.heap.size) s H locs := by rw [hg33]; exact hI
              have hS : SR k adP bs (bs + u) g33 uns play rd n lat gar T (came + 1, mis + 1, lost, bel, fb uns t9 fig, u, va_up ln (u - 1) (ln (u - 1) + 1), va_up pg (u - 1) (va_up (pg (u - 1)) (ln (u - 1)) (chF t9 fig))) := by rw [hg33]; exact SR.obj hS
              have hF : FRA ad g bs adP g33 := by rw [hg33]; exact FRA.up hF (by omega)
              have hG0 : ∀ i, i < 50 → g33 i = g i := fun i hi => by rw [hg33]; exact (va_up_ne _ _ (by omega)).trans (hG0 i hi)
              refine lv_iload_n hx hb dX4_come_243 rfl (lv_at hl 2 rfl) ?_
              have hfu : sFull (u, ln, pg) = false := decide_eq_false c_196
              have hl9 : lOb sFull (chF t9 fig) (u, ln, pg) lost = lost := by unfold lOb; rw [if_neg h54, if_neg (by omega), hfu] <;> rfl
              have hp9 : pOb sNl sFull sAdd (chF t9 fig) (u, ln, pg) = (u, va_up ln (u - 1) (ln (u - 1) + 1), va_up pg (u - 1) (va_up (pg (u - 1)) (ln (u - 1)) (chF t9 fig))) := by unfold pOb; rw [if_neg h54, if_neg (by omega), hfu] <;> rfl
              have hy : yIn sNl sFull sAdd uns play lat gar co (came, mis, lost, bel, fig, u, ln, pg) = (came + 1, mis + 1, lost, bel, fb uns t9 fig, (u, va_up ln (u - 1) (ln (u - 1) + 1), va_up pg (u - 1) (va_up (pg (u - 1)) (ln (u - 1)) (chF t9 fig)))) := by
                show (came + 1, (if rdY play lat gar came co = co then mis else mis + 1), lOb sFull (chF (rdY play lat gar came co) fig) (u, ln, pg) lost, (if rdY play lat gar came co = 8 then bel + 1 else bel), fb uns (rdY play lat gar came co) fig, pOb sNl sFull sAdd (chF (rdY play lat gar came co) fig) (u, ln, pg)) = _
                rw [← ht9, if_neg c_22, if_neg c_38, hl9, hp9]
              exact m_giret hx hb hr hlocks hE hI (post := fun (r : Int32) (ad1 : Nat → Nat) (N1 : Nat) (g1 : Nat → va_E) => r = nI (rdY play lat gar came co) ∧ FRA ad g bs ad1 g1 ∧ (∀ i, i < 50 → g1 i = g i) ∧ SR k ad1 bs N1 g1 uns play rd n lat gar T (yIn sNl sFull sAdd uns play lat gar co (came, mis, lost, bel, fig, u, ln, pg))) (v := nI t9) (⟨by rw [ht9], hF, hG0, by rw [hy]; exact hS⟩) (by omega) (by omega) dX4_come_244
            · refine lv_aload_n hx hb dX4_come_199 rfl (lv_at hl 3 rfl) ?_
              refine lv_dup hx hb dX4_come_200 rfl ?_
              refine m_stk (show ([.ref aS, .ref aS] : List Value) = [.ref (ad 50), .ref aS] from by rw [haS]) ?_
              refine m_get (ci := 4) (C := RX4) (T := TX4) (N' := 14) hx hb hts (by decide +kernel) hown hE hI 50 (by omega) (show g29 50 = .inr (4, [.ref (ad 51), .ref (ad 52), .ref (ad 53), .int (bI fig), .int (bI uns), .int (nI play), .ref (ad 54), .ref (ad 55), .ref (ad 56), .int (nI rd), .int (nI (came + 1)), .int (mis + 1), .int lost, .int bel]) from hS.2.1) rfl 12 (by decide) (hts (.fieldLink RX4 60 "TapePrinterLaw$Sim" "lost" "I") (by decide +kernel)) rfl dX4_come_201 ?_
              refine lv_iconst (v := nI 1) hx hb dX4_come_204 (by decide) ?_
              refine lv_iadd hx hb dX4_come_205 ?_
              refine m_top (show lost + (nI 1) = lost + 1 from rfl) ?_
              refine m_stk (show ([.int (lost + 1), .ref aS] : List Value) = [.int (lost + 1), .ref (ad 50)] from by rw [haS]) ?_
              refine m_put (ci := 4) (C := RX4) (T := TX4) (N' := 14) (ty := .int) hx hb hts (by decide +kernel) tyX4 tyX4_ok nmX4 hown hE hI 50 (by omega) (show g29 50 = .inr (4, [.ref (ad 51), .ref (ad 52), .ref (ad 53), .int (bI fig), .int (bI uns), .int (nI play), .ref (ad 54), .ref (ad 55), .ref (ad 56), .int (nI rd), .int (nI (came + 1)), .int (mis + 1), .int lost, .int bel]) from hS.2.1) rfl 12 (by decide) (hts (.fieldLink RX4 60 "TapePrinterLaw$Sim" "lost" "I") (by decide +kernel)) rfl (by decide +kernel) rfl rfl (Nat.le_of_ble_eq_true rfl) dX4_come_206 (fun H locs hI => ?_)
              obtain ⟨g34, hg34⟩ : ∃ zz, zz = va_up g29 50 (.inr (4, [.ref (ad 51), .ref (ad 52), .ref (ad 53), .int (bI fig), .int (bI uns), .int (nI play), .ref (ad 54), .ref (ad 55), .ref (ad 56), .int (nI rd), .int (nI (came + 1)), .int (mis + 1), .int (lost + 1), .int bel])) := ⟨_, rfl⟩
              replace hI : mI k ad N g34 (mA ad N s.heap.size) s H locs := by rw [hg34]; exact hI
              have hS : SR k ad bs N g34 uns play rd n lat gar T (came + 1, mis + 1, lost + 1, bel, fig, u, ln, pg) := by rw [hg34]; exact SR.obj hS
              have hF : FRA ad g bs ad g34 := by rw [hg34]; exact FRA.up hF (by omega)
              have hG0 : ∀ i, i < 50 → g34 i = g i := fun i hi => by rw [hg34]; exact (va_up_ne _ _ (by omega)).trans (hG0 i hi)
              refine lv_goto (tgt := 230) hx hb dX4_come_209 (by decide) ?_
              refine lv_aload_n hx hb dX4_come_230 rfl (lv_at hl 3 rfl) ?_
              refine lv_aload_n hx hb dX4_come_231 rfl (lv_at hl 3 rfl) ?_
              refine lv_aload_n hx hb dX4_come_232 rfl (lv_at hl 3 rfl) ?_
              refine m_stk (show ([.ref aS, .ref aS, .ref aS] : List Value) = [.ref (ad 50), .ref aS, .ref aS] from by rw [haS]) ?_
              refine m_get (ci := 4) (C := RX4) (T := TX4) (N' := 14) hx hb hts (by decide +kernel) hown hE hI 50 (by omega) (show g34 50 = .inr (4, [.ref (ad 51), .ref (ad 52), .ref (ad 53), .int (bI fig), .int (bI uns), .int (nI play), .ref (ad 54), .ref (ad 55), .ref (ad 56), .int (nI rd), .int (nI (came + 1)), .int (mis + 1), .int (lost + 1), .int bel]) from hS.2.1) rfl 3 (by decide) (hts (.fieldLink RX4 57 "TapePrinterLaw$Sim" "isFigures" "Z") (by decide +kernel)) rfl dX4_come_233 ?_
              refine lv_iload_n hx hb dX4_come_236 rfl (lv_at hl 2 rfl) ?_
              refine m_stk (show ([.int (nI t9), .int (bI fig), .ref aS, .ref aS] : List Value) = [.int (nI t9), .int (bI fig), .ref (ad 50), .ref aS] from by rw [haS]) ?_
              refine m_callVi (As := [.int (bI fig), .int (nI t9)]) (rest := [.ref aS]) ⟨hx, hb, hml, hown, hts⟩ hE hI (c_X4_after k l ad N g34 _ uns play rd n lat gar T (came + 1) (mis + 1) (lost + 1) bel fig u ln pg bs fig t9 (by omega) hS) (cwV 2 hts gX4_come_X4_after rfl rfl rfl (by decide +kernel) ⟨Nat.le_of_ble_eq_true rfl, Nat.le_of_ble_eq_true rfl⟩) (i := 50) (by omega) (show g34 50 = .inr (4, [.ref (ad 51), .ref (ad 52), .ref (ad 53), .int (bI fig), .int (bI uns), .int (nI play), .ref (ad 54), .ref (ad 55), .ref (ad 56), .int (nI rd), .int (nI (came + 1)), .int (mis + 1), .int (lost + 1), .int bel]) from hS.2.1) rfl rfl hl.1 rfl (Nat.le_of_ble_eq_true rfl) dX4_come_237 ⟨(by show _ ≤ 4; omega), (by show _ ≤ 70; omega)⟩ (m_deti (fun H locs hI => ?_))
              refine m_stk (show ([.int (bI (fb uns t9 fig)), .ref aS] : List Value) = [.int (bI (fb uns t9 fig)), .ref (ad 50)] from by rw [haS]) ?_
              refine m_put (ci := 4) (C := RX4) (T := TX4) (N' := 14) (ty := .boolean) hx hb hts (by decide +kernel) tyX4 tyX4_ok nmX4 hown hE hI 50 (by omega) (show g34 50 = .inr (4, [.ref (ad 51), .ref (ad 52), .ref (ad 53), .int (bI fig), .int (bI uns), .int (nI play), .ref (ad 54), .ref (ad 55), .ref (ad 56), .int (nI rd), .int (nI (came + 1)), .int (mis + 1), .int (lost + 1), .int bel]) from hS.2.1) rfl 3 (by decide) (hts (.fieldLink RX4 57 "TapePrinterLaw$Sim" "isFigures" "Z") (by decide +kernel)) rfl (by decide +kernel) (bI_nar _) (bI_fit _) (Nat.le_of_ble_eq_true rfl) dX4_come_240 (fun H locs hI => ?_)
              obtain ⟨g35, hg35⟩ : ∃ zz, zz = va_up g34 50 (.inr (4, [.ref (ad 51), .ref (ad 52), .ref (ad 53), .int (bI (fb uns t9 fig)), .int (bI uns), .int (nI play), .ref (ad 54), .ref (ad 55), .ref (ad 56), .int (nI rd), .int (nI (came + 1)), .int (mis + 1), .int (lost + 1), .int bel])) := ⟨_, rfl⟩
              replace hI : mI k ad N g35 (mA ad N s.heap.size) s H locs := by rw [hg35]; exact hI
              have hS : SR k ad bs N g35 uns play rd n lat gar T (came + 1, mis + 1, lost + 1, bel, fb uns t9 fig, u, ln, pg) := by rw [hg35]; exact SR.obj hS
              have hF : FRA ad g bs ad g35 := by rw [hg35]; exact FRA.up hF (by omega)
              have hG0 : ∀ i, i < 50 → g35 i = g i := fun i hi => by rw [hg35]; exact (va_up_ne _ _ (by omega)).trans (hG0 i hi)
              refine lv_iload_n hx hb dX4_come_243 rfl (lv_at hl 2 rfl) ?_
              have hfu : sFull (u, ln, pg) = true := decide_eq_true c_196
              have hl9 : lOb sFull (chF t9 fig) (u, ln, pg) lost = lost + 1 := by unfold lOb; rw [if_neg h54, if_neg (by omega), hfu] <;> rfl
              have hp9 : pOb sNl sFull sAdd (chF t9 fig) (u, ln, pg) = (u, ln, pg) := by unfold pOb; rw [if_neg h54, if_neg (by omega), hfu] <;> rfl
              have hy : yIn sNl sFull sAdd uns play lat gar co (came, mis, lost, bel, fig, u, ln, pg) = (came + 1, mis + 1, lost + 1, bel, fb uns t9 fig, (u, ln, pg)) := by
                show (came + 1, (if rdY play lat gar came co = co then mis else mis + 1), lOb sFull (chF (rdY play lat gar came co) fig) (u, ln, pg) lost, (if rdY play lat gar came co = 8 then bel + 1 else bel), fb uns (rdY play lat gar came co) fig, pOb sNl sFull sAdd (chF (rdY play lat gar came co) fig) (u, ln, pg)) = _
                rw [← ht9, if_neg c_22, if_neg c_38, hl9, hp9]
              exact m_giret hx hb hr hlocks hE hI (post := fun (r : Int32) (ad1 : Nat → Nat) (N1 : Nat) (g1 : Nat → va_E) => r = nI (rdY play lat gar came co) ∧ FRA ad g bs ad1 g1 ∧ (∀ i, i < 50 → g1 i = g i) ∧ SR k ad1 bs N1 g1 uns play rd n lat gar T (yIn sNl sFull sAdd uns play lat gar co (came, mis, lost, bel, fig, u, ln, pg))) (v := nI t9) (⟨by rw [ht9], hF, hG0, by rw [hy]; exact hS⟩) (by omega) (by omega) dX4_come_244
      · refine lv_aload_n hx hb dX4_come_56 rfl (lv_at hl 1 rfl) ?_
        refine m_stk (show ([.ref aS] : List Value) = [.ref (ad 50)] from by rw [haS]) ?_
        refine m_get (ci := 4) (C := RX4) (T := TX4) (N' := 14) hx hb hts (by decide +kernel) hown hE hI 50 (by omega) (show g29 50 = .inr (4, [.ref (ad 51), .ref (ad 52), .ref (ad 53), .int (bI fig), .int (bI uns), .int (nI play), .ref (ad 54), .ref (ad 55), .ref (ad 56), .int (nI rd), .int (nI (came + 1)), .int (mis + 1), .int lost, .int bel]) from hS.2.1) rfl 2 (by decide) (hts (.fieldLink RX4 23 "TapePrinterLaw$Sim" "page" "[[I") (by decide +kernel)) rfl dX4_come_57 ?_
        refine m_alen2 hx hb hE hI 53 (by omega) (show g29 53 = .inl (k.2.1.2.2.2, u, .inr (.inr (.inr (.inr (pgF ad bs u))))) from hS.2.2.2.2.1) dX4_come_60 ?_
        refine lv_istore_n (lv' := [(3, .int (nI u)), (2, .int (nI t9)), (0, .ref aS), (1, .int (nI co))]) hx hb dX4_come_61 rfl hl (by decide) rfl (fun ls hl => ?_)
        refine lv_iload_n hx hb dX4_come_62 rfl (lv_at hl 0 rfl) ?_
        refine lv_bipush (v := nI 20) hx hb dX4_come_63 (by decide) ?_
        refine m_cneN (tgt := 73) hx hb (by omega) (by omega) dX4_come_65 (by decide) (fun c_65 => ?_) (fun c_65 => ?_)
        · refine lv_iload_n hx hb dX4_come_73 rfl (lv_at hl 0 rfl) ?_
          refine lv_iconst (v := nI 1) hx hb dX4_come_74 (by decide) ?_
          refine m_iaddN hx hb dX4_come_75 ?_
          refine m_new2 (n := u + 1) (c1 := 2) (s1 := 5 + (u + 1)) hx hb hown (hts (.classLink RX4 22 "[I") (by decide +kernel)) hE hI (by omega) (by omega) (by omega) (by show _ ≤ 4; omega) (by show _ ≤ 70; omega) dX4_come_76 (fun ad8 H hag8 hE hI => ?_)
          obtain ⟨g36, hg36⟩ : ∃ zz, zz = va_up g29 N (.inl (k.2.1.2.2.2, (u + 1), .inr (.inr (.inr (.inr (fun _ => none)))))) := ⟨_, rfl⟩
          have hE : mE k ad8 (N + 1) (mA ad N s.heap.size) s := hE
          replace hI : mI k ad8 (N + 1) g36 (mA ad N s.heap.size) s H locs := by rw [hg36]; exact hI
          have hgg8 : ∀ i, i < N → g36 i = g29 i := fun i hi => by rw [hg36, va_up_ne _ _ (by omega)]
          have haS : ad8 50 = aS := by rw [hag8 50 (by omega)]; exact haS
          have hS : SR k ad8 bs (N + 1) g36 uns play rd n lat gar T (came + 1, mis + 1, lost, bel, fig, u, ln, pg) := SR.grow hS (by omega) (fun i hi => hag8 i (by omega)) (fun i hi => hgg8 i (by omega))
          have hF : FRA ad g bs ad8 g36 := FRA.go hF (FRA.of (N := N) (by omega) (by omega) (fun i hi => hag8 i (by omega)) (fun i hi => hgg8 i (by omega)))
          have hG0 : ∀ i, i < 50 → g36 i = g i := fun i hi => (hgg8 i (by omega)).trans (hG0 i hi)
          have hnw8 : g36 N = .inl (k.2.1.2.2.2, (u + 1), .inr (.inr (.inr (.inr (fun _ => none))))) := by rw [hg36, va_up_self]
          refine lv_astore (lv' := [(4, .ref (ad8 N)), (3, .int (nI u)), (2, .int (nI t9)), (0, .ref aS), (1, .int (nI co))]) hx hb dX4_come_79 hl (by decide) rfl (fun ls hl => ?_)
          refine lv_iconst (v := nI 0) hx hb dX4_come_81 (by decide) ?_
          refine lv_istore (lv' := [(5, .int (nI 0)), (4, .ref (ad8 N)), (3, .int (nI u)), (2, .int (nI t9)), (0, .ref aS), (1, .int (nI co))]) hx hb dX4_come_82 hl (by decide) rfl (fun ls hl => ?_)
          rw [q_zero (fun j => some (ad8 (bs + j)))] at hnw8
          refine m_loop (σ := Nat × (Nat → va_E)) (fun ⟨q, gi⟩ => (q + 1 ≤ u + 1) ∧ gi N = .inl (k.2.1.2.2.2, (u + 1), .inr (.inr (.inr (.inr (fun j => if j < q then some (ad8 (bs + j)) else none))))) ∧ ∀ i, i ≠ N → gi i = g36 i) (fun ⟨q, gi⟩ => u + 1 - q) (fun ⟨q, gi⟩ => gi) (fun ⟨q, gi⟩ => [(0, .ref aS), (1, .int (nI co)), (2, .int (nI t9)), (3, .int (nI u)), (4, .ref (ad8 N)), (5, .int (nI q))]) (nL := 6) (0, g36) ⟨(by omega), hnw8, fun _ _ => rfl⟩ hI (lv_sub hl [4, 5, 3, 2, 1, 0] rfl) ?_
          rintro ⟨q, g37⟩ ⟨hq9, hcl84, hf84⟩ ih84 H locs ls hI hl
          have hI : mI k ad8 (N + 1) g37 (mA ad N s.heap.size) s H locs := hI
          have hl : lv_has ls 6 [(0, .ref aS), (1, .int (nI co)), (2, .int (nI t9)), (3, .int (nI u)), (4, .ref (ad8 N)), (5, .int (nI q))] := hl
          have hcl84 : g37 N = .inl (k.2.1.2.2.2, (u + 1), .inr (.inr (.inr (.inr (fun j => if j < q then some (ad8 (bs + j)) else none))))) := hcl84
          have hf84 : ∀ i, i ≠ N → g37 i = g36 i := hf84
          have hS : SR k ad8 bs (N + 1) g37 uns play rd n lat gar T (came + 1, mis + 1, lost, bel, fig, u, ln, pg) := SR.mid hS (fun i hi => hf84 i (by omega))
          have hF : FRA ad g bs ad8 g37 := FRA.go hF ⟨fun _ _ => rfl, fun _ _ _ => rfl, fun i _ hi => hf84 i (by omega)⟩
          have hG0 : ∀ i, i < 50 → g37 i = g i := fun i hi => (hf84 i (by omega)).trans (hG0 i hi)
          refine lv_iload hx hb dX4_come_84 (lv_at hl 5 rfl) ?_
          refine lv_aload hx hb dX4_come_86 (lv_at hl 4 rfl) ?_
          refine m_alen2 hx hb hE hI N (by omega) hcl84 dX4_come_88 ?_
          refine m_cgeN (tgt := 139) hx hb (by omega) (by omega) dX4_come_89 (by decide) (fun c_89 => ?_) (fun c_89 => ?_)
          · exact (show False by omega).elim
          · refine lv_aload hx hb dX4_come_92 (lv_at hl 4 rfl) ?_
            refine lv_iload hx hb dX4_come_94 (lv_at hl 5 rfl) ?_
            refine lv_iload hx hb dX4_come_96 (lv_at hl 5 rfl) ?_
            refine lv_iconst (v := nI 1) hx hb dX4_come_98 (by decide) ?_
            refine m_iaddN hx hb dX4_come_99 ?_
            refine lv_aload hx hb dX4_come_100 (lv_at hl 4 rfl) ?_
            refine m_alen2 hx hb hE hI N (by omega) hcl84 dX4_come_102 ?_
            refine m_cneN (tgt := 112) hx hb (by omega) (by omega) dX4_come_103 (by decide) (fun c_103 => ?_) (fun c_103 => ?_)
            · refine lv_aload_n hx hb dX4_come_112 rfl (lv_at hl 0 rfl) ?_
              refine m_stk (show ([.ref aS, .int (nI q), .ref (ad8 N)] : List Value) = [.ref (ad8 50), .int (nI q), .ref (ad8 N)] from by rw [haS]) ?_
              refine m_get (ci := 4) (C := RX4) (T := TX4) (N' := 14) hx hb hts (by decide +kernel) hown hE hI 50 (by omega) (show g37 50 = .inr (4, [.ref (ad8 51), .ref (ad8 52), .ref (ad8 53), .int (bI fig), .int (bI uns), .int (nI play), .ref (ad8 54), .ref (ad8 55), .ref (ad8 56), .int (nI rd), .int (nI (came + 1)), .int (mis + 1), .int lost, .int bel]) from hS.2.1) rfl 2 (by decide) (hts (.fieldLink RX4 23 "TapePrinterLaw$Sim" "page" "[[I") (by decide +kernel)) rfl dX4_come_113 ?_
              refine lv_iload_n hx hb dX4_come_116 rfl (lv_at hl 3 rfl) ?_
              refine lv_bipush (v := nI 20) hx hb dX4_come_117 (by decide) ?_
              refine m_cneN (tgt := 129) hx hb (by omega) (by omega) dX4_come_119 (by decide) (fun c_119 => ?_) (fun c_119 => ?_)
              · refine lv_iload hx hb dX4_come_129 (lv_at hl 5 rfl) ?_
                refine m_ald2 hx hb hE hI 53 (by omega) (j := q) (show g37 53 = .inl (k.2.1.2.2.2, u, .inr (.inr (.inr (.inr (pgF ad8 bs u))))) from hS.2.2.2.2.1) (by omega) (by omega) dX4_come_131 ?_
                refine m_rf (pgF_in (by omega)) ?_
                have pr_9 : g37 (bs + q) = .inl (k.2.1.1, ln q, .inl (fun i => nI (pg q i))) := hS.2.2.2.2.2.2.2.2 q (show q < u by omega)
                refine m_ast2 hx hb hE hI N (bs + q) (by omega) (by omega) (j := q) hcl84 pr_9 (by omega) (by omega) dX4_come_132 (fun H locs hI => ?_)
                obtain ⟨g38, hg38⟩ : ∃ zz, zz = va_up g37 N (.inl (k.2.1.2.2.2, (u + 1), .inr (.inr (.inr (.inr (va_up (fun j => if j < q then some (ad8 (bs + j)) else none) q (some (ad8 (bs + q))))))))) := ⟨_, rfl⟩
                replace hI : mI k ad8 (N + 1) g38 (mA ad N s.heap.size) s H locs := by rw [hg38]; exact hI
                have hS : SR k ad8 bs (N + 1) g38 uns play rd n lat gar T (came + 1, mis + 1, lost, bel, fig, u, ln, pg) := by rw [hg38]; exact SR.off hS (by omega)
                have hF : FRA ad g bs ad8 g38 := by rw [hg38]; exact FRA.up hF (by omega)
                have hG0 : ∀ i, i < 50 → g38 i = g i := fun i hi => by rw [hg38]; exact (va_up_ne _ _ (by omega)).trans (hG0 i hi)
                have hcl84 : g38 N = .inl (k.2.1.2.2.2, (u + 1), .inr (.inr (.inr (.inr (va_up (fun j => if j < q then some (ad8 (bs + j)) else none) q (some (ad8 (bs + q)))))))) := by rw [hg38, va_up_self]
                refine lv_iinc (v := nI (q + 1)) (lv' := [(5, .int (nI (q + 1))), (0, .ref aS), (1, .int (nI co)), (2, .int (nI t9)), (3, .int (nI u)), (4, .ref (ad8 N))]) hx hb dX4_come_133 hl (k := 5) rfl (nI_add q 1) (by decide) rfl (fun ls hl => ?_)
                refine lv_goto (tgt := 84) hx hb dX4_come_136 (by decide) ?_
                have hfr9 : ∀ i, i ≠ N → g38 i = g36 i := fun i hi => by rw [hg38, va_up_ne _ _ hi]; exact hf84 i hi
                rw [show va_up (fun j => if j < q then some (ad8 (bs + j)) else none) q (some (ad8 (bs + q))) = fun j => if j < q + 1 then some (ad8 (bs + j)) else none from q_up (fun j => some (ad8 (bs + j))) q] at hcl84
                exact ih84 (q + 1, g38) ⟨(by omega), hcl84, hfr9⟩ (show u + 1 - (q + 1) < u + 1 - q by omega) _ _ _ hI (lv_sub hl [1, 2, 3, 4, 5, 0] rfl)
              · exact (show False by omega).elim
            · refine lv_iconst (v := nI 0) hx hb dX4_come_106 (by decide) ?_
              refine m_newi (n := 0) (c1 := 3) (s1 := 5 + (u + 1) + 0) hx hb (hts (.arrayClass .int) (by decide +kernel)) hE hI (by omega) (by omega) (by omega) (by show _ ≤ 4; omega) (by show _ ≤ 70; omega) dX4_come_107 (fun ad9 H hag9 hE hI => ?_)
              obtain ⟨g39, hg39⟩ : ∃ zz, zz = va_up g37 (N + 1) (.inl (k.2.1.1, 0, .inl (fun _ => nI 0))) := ⟨_, rfl⟩
              have hE : mE k ad9 (N + 2) (mA ad N s.heap.size) s := hE
              replace hI : mI k ad9 (N + 2) g39 (mA ad N s.heap.size) s H locs := by rw [hg39]; exact hI
              have hgg9 : ∀ i, i < N + 1 → g39 i = g37 i := fun i hi => by rw [hg39, va_up_ne _ _ (by omega)]
              have haS : ad9 50 = aS := by rw [hag9 50 (by omega)]; exact haS
              have hS : SR k ad9 bs (N + 2) g39 uns play rd n lat gar T (came + 1, mis + 1, lost, bel, fig, u, ln, pg) := SR.grow hS (by omega) (fun i hi => hag9 i (by omega)) (fun i hi => hgg9 i (by omega))
              have hF : FRA ad g bs ad9 g39 := FRA.go hF (FRA.of (N := (N + 1)) (by omega) (by omega) (fun i hi => hag9 i (by omega)) (fun i hi => hgg9 i (by omega)))
              have hG0 : ∀ i, i < 50 → g39 i = g i := fun i hi => (hgg9 i (by omega)).trans (hG0 i hi)
              have hcl84 : g39 N = .inl (k.2.1.2.2.2, (u + 1), .inr (.inr (.inr (.inr (fun j => if j < q then some (ad8 (bs + j)) else none))))) := by rw [hgg9 _ (by omega)]; exact hcl84
              have hl : lv_has ls 6 [(0, .ref aS), (1, .int (nI co)), (2, .int (nI t9)), (3, .int (nI u)), (4, .ref (ad9 N)), (5, .int (nI q))] := by rw [hag9 N (by omega)]; exact hl
              have hnw9 : g39 (N + 1) = .inl (k.2.1.1, 0, .inl (fun _ => nI 0)) := by rw [hg39, va_up_self]
              refine m_stk (show ([.ref (ad9 (N + 1)), .int (nI q), .ref (ad8 N)] : List Value) = [.ref (ad9 (N + 1)), .int (nI q), .ref (ad9 N)] from by rw [hag9 N (by omega)]) ?_
              refine lv_goto (tgt := 132) hx hb dX4_come_109 (by decide) ?_
              refine m_ast2 hx hb hE hI N (N + 1) (by omega) (by omega) (j := q) hcl84 hnw9 (by omega) (by omega) dX4_come_132 (fun H locs hI => ?_)
              obtain ⟨g40, hg40⟩ : ∃ zz, zz = va_up g39 N (.inl (k.2.1.2.2.2, (u + 1), .inr (.inr (.inr (.inr (va_up (fun j => if j < q then some (ad8 (bs + j)) else none) q (some (ad9 (N + 1))))))))) := ⟨_, rfl⟩
              replace hI : mI k ad9 (N + 2) g40 (mA ad N s.heap.size) s H locs := by rw [hg40]; exact hI
              have hS : SR k ad9 bs (N + 2) g40 uns play rd n lat gar T (came + 1, mis + 1, lost, bel, fig, u, ln, pg) := by rw [hg40]; exact SR.off hS (by omega)
              have hF : FRA ad g bs ad9 g40 := by rw [hg40]; exact FRA.up hF (by omega)
              have hG0 : ∀ i, i < 50 → g40 i = g i := fun i hi => by rw [hg40]; exact (va_up_ne _ _ (by omega)).trans (hG0 i hi)
              have hcl84 : g40 N = .inl (k.2.1.2.2.2, (u + 1), .inr (.inr (.inr (.inr (va_up (fun j => if j < q then some (ad8 (bs + j)) else none) q (some (ad9 (N + 1)))))))) := by rw [hg40, va_up_self]
              have hnw9 : g40 (N + 1) = .inl (k.2.1.1, 0, .inl (fun _ => nI 0)) := by rw [hg40, va_up_ne _ _ (by omega)]; exact hnw9
              refine lv_iinc (v := nI (q + 1)) (lv' := [(5, .int (nI (q + 1))), (0, .ref aS), (1, .int (nI co)), (2, .int (nI t9)), (3, .int (nI u)), (4, .ref (ad9 N))]) hx hb dX4_come_133 hl (k := 5) rfl (nI_add q 1) (by decide) rfl (fun ls hl => ?_)
              refine lv_goto (tgt := 84) hx hb dX4_come_136 (by decide) ?_
              refine lv_iload hx hb dX4_come_84 (lv_at hl 0 rfl) ?_
              refine lv_aload hx hb dX4_come_86 (lv_at hl 5 rfl) ?_
              refine m_alen2 hx hb hE hI N (by omega) hcl84 dX4_come_88 ?_
              refine m_cgeN (tgt := 139) hx hb (by omega) (by omega) dX4_come_89 (by decide) (fun c_89 => ?_) (fun c_89 => ?_)
              · refine lv_aload_n hx hb dX4_come_139 rfl (lv_at hl 1 rfl) ?_
                refine lv_aload hx hb dX4_come_140 (lv_at hl 5 rfl) ?_
                refine m_stk (show ([.ref (ad9 N), .ref aS] : List Value) = [.ref (ad9 N), .ref (ad9 50)] from by rw [haS]) ?_
                refine m_put (ci := 4) (C := RX4) (T := TX4) (N' := 14) (ty := .array (.array .int)) hx hb hts (by decide +kernel) tyX4 tyX4_ok nmX4 hown hE hI 50 (by omega) (show g40 50 = .inr (4, [.ref (ad9 51), .ref (ad9 52), .ref (ad9 53), .int (bI fig), .int (bI uns), .int (nI play), .ref (ad9 54), .ref (ad9 55), .ref (ad9 56), .int (nI rd), .int (nI (came + 1)), .int (mis + 1), .int lost, .int bel]) from hS.2.1) rfl 2 (by decide) (hts (.fieldLink RX4 23 "TapePrinterLaw$Sim" "page" "[[I") (by decide +kernel)) rfl (by decide +kernel) rfl rfl (Nat.le_of_ble_eq_true rfl) dX4_come_142 (fun H locs hI => ?_)
                have hnl := SR.nlc (u + 1) 0 N (N + 1) (va_up ln u 0) (pg) hE hI hS (by omega) (by omega) (by omega) (by omega) (by omega) hcl84 (fun j hj => by
                  by_cases e1 : j = q
                  · rw [e1, va_up_self, if_pos c_103]
                  · rw [va_up_ne _ _ e1]; show (if j < q then some (ad8 (bs + j)) else none) = _; rw [if_pos (show j < q by omega), if_neg (show ¬ j + 1 = u + 1 by omega), hag9 _ (by omega)] <;> rfl) hnw9 (fun l hl => by
                  exact ⟨va_up_ne _ _ (by omega), rfl⟩) (by rw [show u + 1 - 1 = u by omega, va_up_self])
                obtain ⟨adP, gP, hE, hI, hFP, hGP, hS⟩ := hnl
                have hP : sNl (u, ln, pg) = (u + 1, va_up ln u 0, pg) := by unfold sNl; exact if_neg (by show ¬ u = 20; omega)
                obtain ⟨g41, hg41⟩ : ∃ zz, zz = gP := ⟨_, rfl⟩
                rw [← hg41] at hI hFP hGP hS
                have hE : mE k adP (bs + (u + 1)) (mA ad N s.heap.size) s := hE
                have hI : mI k adP (bs + (u + 1)) g41 (mA ad N s.heap.size) s H locs := hI
                have hS : SR k adP bs (bs + (u + 1)) g41 uns play rd n lat gar T (came + 1, mis + 1, lost, bel, fig, u + 1, va_up ln u 0, pg) := hS
                have hF : FRA ad g bs adP g41 := FRA.go hF hFP
                have hG0 : ∀ i, i < 50 → g41 i = g i := fun i hi => (hGP i hi).trans (hG0 i hi)
                have haS : adP 50 = aS := (hFP.1 50 (by omega)).trans haS
                have hl : lv_has ls 6 [(5, .int (nI (q + 1))), (0, .ref aS), (1, .int (nI co)), (2, .int (nI t9)), (3, .int (nI u))] := lv_sub hl [0, 1, 2, 3, 4] rfl
                refine m_via hI 167 ([.int (nI (chF t9 fig))]) (fun K => ?_) (fun H locs hI => ?_)
                · refine lv_aload_n hx hb dX4_come_145 rfl (lv_at hl 1 rfl) ?_
                  refine m_stk (show ([.ref aS] : List Value) = [.ref (adP 50)] from by rw [haS]) ?_
                  refine m_get (ci := 4) (C := RX4) (T := TX4) (N' := 14) hx hb hts (by decide +kernel) hown hE hI 50 (by omega) (show g41 50 = .inr (4, [.ref (adP 51), .ref (adP 52), .ref (adP 53), .int (bI fig), .int (bI uns), .int (nI play), .ref (adP 54), .ref (adP 55), .ref (adP 56), .int (nI rd), .int (nI (came + 1)), .int (mis + 1), .int lost, .int bel]) from hS.2.1) rfl 3 (by decide) (hts (.fieldLink RX4 57 "TapePrinterLaw$Sim" "isFigures" "Z") (by decide +kernel)) rfl dX4_come_146 ?_
                  refine m_zeqB (tgt := 161) hx hb dX4_come_149 (by decide) (fun c_149 => ?_) (fun c_149 => ?_)
                  · refine lv_aload_n hx hb dX4_come_161 rfl (lv_at hl 1 rfl) ?_
                    refine m_stk (show ([.ref aS] : List Value) = [.ref (adP 50)] from by rw [haS]) ?_
                    refine m_get (ci := 4) (C := RX4) (T := TX4) (N' := 14) hx hb hts (by decide +kernel) hown hE hI 50 (by omega) (show g41 50 = .inr (4, [.ref (adP 51), .ref (adP 52), .ref (adP 53), .int (bI fig), .int (bI uns), .int (nI play), .ref (adP 54), .ref (adP 55), .ref (adP 56), .int (nI rd), .int (nI (came + 1)), .int (mis + 1), .int lost, .int bel]) from hS.2.1) rfl 0 (by decide) (hts (.fieldLink RX4 13 "TapePrinterLaw$Sim" "letters" "[I") (by decide +kernel)) rfl dX4_come_162 ?_
                    refine lv_iload_n hx hb dX4_come_165 rfl (lv_at hl 3 rfl) ?_
                    refine m_iald hx hb hE hI 51 (by omega) (j := t9) (show g41 51 = .inl (k.2.1.1, 32, .inl (fun j => nI (chF j false))) from hS.2.2.1) (by omega) (by omega) dX4_come_166 ?_
                    refine m_top (show (fun j => nI (chF j false)) t9 = nI (chF t9 false) from rfl) ?_
                    refine m_top (show nI (chF t9 false) = nI (chF t9 fig) from by rw [c_149]) ?_
                    exact K H locs hI
                  · refine lv_aload_n hx hb dX4_come_152 rfl (lv_at hl 1 rfl) ?_
                    refine m_stk (show ([.ref aS] : List Value) = [.ref (adP 50)] from by rw [haS]) ?_
                    refine m_get (ci := 4) (C := RX4) (T := TX4) (N' := 14) hx hb hts (by decide +kernel) hown hE hI 50 (by omega) (show g41 50 = .inr (4, [.ref (adP 51), .ref (adP 52), .ref (adP 53), .int (bI fig), .int (bI uns), .int (nI play), .ref (adP 54), .ref (adP 55), .ref (adP 56), .int (nI rd), .int (nI (came + 1)), .int (mis + 1), .int lost, .int bel]) from hS.2.1) rfl 1 (by decide) (hts (.fieldLink RX4 19 "TapePrinterLaw$Sim" "figures" "[I") (by decide +kernel)) rfl dX4_come_153 ?_
                    refine lv_iload_n hx hb dX4_come_156 rfl (lv_at hl 3 rfl) ?_
                    refine m_iald hx hb hE hI 52 (by omega) (j := t9) (show g41 52 = .inl (k.2.1.1, 32, .inl (fun j => nI (chF j true))) from hS.2.2.2.1) (by omega) (by omega) dX4_come_157 ?_
                    refine m_top (show (fun j => nI (chF j true)) t9 = nI (chF t9 true) from rfl) ?_
                    refine lv_goto (tgt := 167) hx hb dX4_come_158 (by decide) ?_
                    refine m_top (show nI (chF t9 true) = nI (chF t9 fig) from by rw [c_149]) ?_
                    exact K H locs hI
                have hch := chF_le t9 ht32 fig
                have h54 : chF t9 fig = 54 := by rw [c_53]; exact chF_2 fig
                refine lv_istore_n (lv' := [(3, .int (nI (chF t9 fig))), (5, .int (nI (q + 1))), (0, .ref aS), (1, .int (nI co)), (2, .int (nI t9))]) hx hb dX4_come_167 rfl hl (by decide) rfl (fun ls hl => ?_)
                refine lv_iload_n hx hb dX4_come_168 rfl (lv_at hl 0 rfl) ?_
                refine m_zleN (tgt := 230) hx hb (by omega) dX4_come_169 (by decide) (fun c_169 => ?_) (fun c_169 => ?_)
                · exact (show False by omega).elim
                · refine lv_iload_n hx hb dX4_come_172 rfl (lv_at hl 4 rfl) ?_
                  refine lv_iconst (v := nI 2) hx hb dX4_come_173 (by decide) ?_
                  refine m_ceqN (tgt := 230) hx hb (by omega) (by omega) dX4_come_174 (by decide) (fun c_174 => ?_) (fun c_174 => ?_)
                  · refine lv_aload_n hx hb dX4_come_230 rfl (lv_at hl 2 rfl) ?_
                    refine lv_aload_n hx hb dX4_come_231 rfl (lv_at hl 2 rfl) ?_
                    refine lv_aload_n hx hb dX4_come_232 rfl (lv_at hl 2 rfl) ?_
                    refine m_stk (show ([.ref aS, .ref aS, .ref aS] : List Value) = [.ref (adP 50), .ref aS, .ref aS] from by rw [haS]) ?_
                    refine m_get (ci := 4) (C := RX4) (T := TX4) (N' := 14) hx hb hts (by decide +kernel) hown hE hI 50 (by omega) (show g41 50 = .inr (4, [.ref (adP 51), .ref (adP 52), .ref (adP 53), .int (bI fig), .int (bI uns), .int (nI play), .ref (adP 54), .ref (adP 55), .ref (adP 56), .int (nI rd), .int (nI (came + 1)), .int (mis + 1), .int lost, .int bel]) from hS.2.1) rfl 3 (by decide) (hts (.fieldLink RX4 57 "TapePrinterLaw$Sim" "isFigures" "Z") (by decide +kernel)) rfl dX4_come_233 ?_
                    refine lv_iload_n hx hb dX4_come_236 rfl (lv_at hl 4 rfl) ?_
                    refine m_stk (show ([.int (nI t9), .int (bI fig), .ref aS, .ref aS] : List Value) = [.int (nI t9), .int (bI fig), .ref (adP 50), .ref aS] from by rw [haS]) ?_
                    refine m_callVi (As := [.int (bI fig), .int (nI t9)]) (rest := [.ref aS]) ⟨hx, hb, hml, hown, hts⟩ hE hI (c_X4_after k l adP (bs + (u + 1)) g41 _ uns play rd n lat gar T (came + 1) (mis + 1) lost bel fig (u + 1) (va_up ln u 0) pg bs fig t9 (by omega) hS) (cwV 2 hts gX4_come_X4_after rfl rfl rfl (by decide +kernel) ⟨Nat.le_of_ble_eq_true rfl, Nat.le_of_ble_eq_true rfl⟩) (i := 50) (by omega) (show g41 50 = .inr (4, [.ref (adP 51), .ref (adP 52), .ref (adP 53), .int (bI fig), .int (bI uns), .int (nI play), .ref (adP 54), .ref (adP 55), .ref (adP 56), .int (nI rd), .int (nI (came + 1)), .int (mis + 1), .int lost, .int bel]) from hS.2.1) rfl rfl hl.1 rfl (Nat.le_of_ble_eq_true rfl) dX4_come_237 ⟨(by show _ ≤ 4; omega), (by show _ ≤ 70; omega)⟩ (m_deti (fun H locs hI => ?_))
                    refine m_stk (show ([.int (bI (fb uns t9 fig)), .ref aS] : List Value) = [.int (bI (fb uns t9 fig)), .ref (adP 50)] from by rw [haS]) ?_
                    refine m_put (ci := 4) (C := RX4) (T := TX4) (N' := 14) (ty := .boolean) hx hb hts (by decide +kernel) tyX4 tyX4_ok nmX4 hown hE hI 50 (by omega) (show g41 50 = .inr (4, [.ref (adP 51), .ref (adP 52), .ref (adP 53), .int (bI fig), .int (bI uns), .int (nI play), .ref (adP 54), .ref (adP 55), .ref (adP 56), .int (nI rd), .int (nI (came + 1)), .int (mis + 1), .int lost, .int bel]) from hS.2.1) rfl 3 (by decide) (hts (.fieldLink RX4 57 "TapePrinterLaw$Sim" "isFigures" "Z") (by decide +kernel)) rfl (by decide +kernel) (bI_nar _) (bI_fit _) (Nat.le_of_ble_eq_true rfl) dX4_come_240 (fun H locs hI => ?_)
                    obtain ⟨g42, hg42⟩ : ∃ zz, zz = va_up g41 50 (.inr (4, [.ref (adP 51), .ref (adP 52), .ref (adP 53), .int (bI (fb uns t9 fig)), .int (bI uns), .int (nI play), .ref (adP 54), .ref (adP 55), .ref (adP 56), .int (nI rd), .int (nI (came + 1)), .int (mis + 1), .int lost, .int bel])) := ⟨_, rfl⟩
                    replace hI : mI k adP (bs + (u + 1)) g42 (mA ad N s.heap.size) s H locs := by rw [hg42]; exact hI
                    have hS : SR k adP bs (bs + (u + 1)) g42 uns play rd n lat gar T (came + 1, mis + 1, lost, bel, fb uns t9 fig, u + 1, va_up ln u 0, pg) := by rw [hg42]; exact SR.obj hS
                    have hF : FRA ad g bs adP g42 := by rw [hg42]; exact FRA.up hF (by omega)
                    have hG0 : ∀ i, i < 50 → g42 i = g i := fun i hi => by rw [hg42]; exact (va_up_ne _ _ (by omega)).trans (hG0 i hi)
                    refine lv_iload_n hx hb dX4_come_243 rfl (lv_at hl 4 rfl) ?_
                    have hl9 : lOb sFull (chF t9 fig) (u, ln, pg) lost = lost := by unfold lOb; rw [if_pos h54]
                    have hp9 : pOb sNl sFull sAdd (chF t9 fig) (u, ln, pg) = (u + 1, va_up ln u 0, pg) := by unfold pOb; rw [if_pos h54, hP]
                    have hy : yIn sNl sFull sAdd uns play lat gar co (came, mis, lost, bel, fig, u, ln, pg) = (came + 1, mis + 1, lost, bel, fb uns t9 fig, (u + 1, va_up ln u 0, pg)) := by
                      show (came + 1, (if rdY play lat gar came co = co then mis else mis + 1), lOb sFull (chF (rdY play lat gar came co) fig) (u, ln, pg) lost, (if rdY play lat gar came co = 8 then bel + 1 else bel), fb uns (rdY play lat gar came co) fig, pOb sNl sFull sAdd (chF (rdY play lat gar came co) fig) (u, ln, pg)) = _
                      rw [← ht9, if_neg c_22, if_neg c_38, hl9, hp9]
                    exact m_giret hx hb hr hlocks hE hI (post := fun (r : Int32) (ad1 : Nat → Nat) (N1 : Nat) (g1 : Nat → va_E) => r = nI (rdY play lat gar came co) ∧ FRA ad g bs ad1 g1 ∧ (∀ i, i < 50 → g1 i = g i) ∧ SR k ad1 bs N1 g1 uns play rd n lat gar T (yIn sNl sFull sAdd uns play lat gar co (came, mis, lost, bel, fig, u, ln, pg))) (v := nI t9) (⟨by rw [ht9], hF, hG0, by rw [hy]; exact hS⟩) (by omega) (by omega) dX4_come_244
                  · exact (show False by omega).elim
              · exact (show False by omega).elim
        · refine lv_bipush (v := nI 20) hx hb dX4_come_68 (by decide) ?_
          refine lv_goto (tgt := 76) hx hb dX4_come_70 (by decide) ?_
          refine m_new2 (n := 20) (c1 := 2) (s1 := 25) hx hb hown (hts (.classLink RX4 22 "[I") (by decide +kernel)) hE hI (by omega) (by omega) (by omega) (by show _ ≤ 4; omega) (by show _ ≤ 70; omega) dX4_come_76 (fun ad10 H hag10 hE hI => ?_)
          obtain ⟨g43, hg43⟩ : ∃ zz, zz = va_up g29 N (.inl (k.2.1.2.2.2, 20, .inr (.inr (.inr (.inr (fun _ => none)))))) := ⟨_, rfl⟩
          have hE : mE k ad10 (N + 1) (mA ad N s.heap.size) s := hE
          replace hI : mI k ad10 (N + 1) g43 (mA ad N s.heap.size) s H locs := by rw [hg43]; exact hI
          have hgg10 : ∀ i, i < N → g43 i = g29 i := fun i hi => by rw [hg43, va_up_ne _ _ (by omega)]
          have haS : ad10 50 = aS := by rw [hag10 50 (by omega)]; exact haS
          have hS : SR k ad10 bs (N + 1) g43 uns play rd n lat gar T (came + 1, mis + 1, lost, bel, fig, u, ln, pg) := SR.grow hS (by omega) (fun i hi => hag10 i (by omega)) (fun i hi => hgg10 i (by omega))
          have hF : FRA ad g bs ad10 g43 := FRA.go hF (FRA.of (N := N) (by omega) (by omega) (fun i hi => hag10 i (by omega)) (fun i hi => hgg10 i (by omega)))
          have hG0 : ∀ i, i < 50 → g43 i = g i := fun i hi => (hgg10 i (by omega)).trans (hG0 i hi)
          have hnw10 : g43 N = .inl (k.2.1.2.2.2, 20, .inr (.inr (.inr (.inr (fun _ => none))))) := by rw [hg43, va_up_self]
          refine lv_astore (lv' := [(4, .ref (ad10 N)), (3, .int (nI u)), (2, .int (nI t9)), (0, .ref aS), (1, .int (nI co))]) hx hb dX4_come_79 hl (by decide) rfl (fun ls hl => ?_)
          refine lv_iconst (v := nI 0) hx hb dX4_come_81 (by decide) ?_
          refine lv_istore (lv' := [(5, .int (nI 0)), (4, .ref (ad10 N)), (3, .int (nI u)), (2, .int (nI t9)), (0, .ref aS), (1, .int (nI co))]) hx hb dX4_come_82 hl (by decide) rfl (fun ls hl => ?_)
          rw [q_zero (fun j => some (ad10 (bs + (j + 1))))] at hnw10
          refine m_loop (σ := Nat × (Nat → va_E)) (fun ⟨q, gi⟩ => (q + 1 ≤ 20) ∧ gi N = .inl (k.2.1.2.2.2, 20, .inr (.inr (.inr (.inr (fun j => if j < q then some (ad10 (bs + (j + 1))) else none))))) ∧ ∀ i, i ≠ N → gi i = g43 i) (fun ⟨q, gi⟩ => 20 - q) (fun ⟨q, gi⟩ => gi) (fun ⟨q, gi⟩ => [(0, .ref aS), (1, .int (nI co)), (2, .int (nI t9)), (3, .int (nI u)), (4, .ref (ad10 N)), (5, .int (nI q))]) (nL := 6) (0, g43) ⟨(by omega), hnw10, fun _ _ => rfl⟩ hI (lv_sub hl [4, 5, 3, 2, 1, 0] rfl) ?_
          rintro ⟨q, g44⟩ ⟨hq9, hcl84, hf84⟩ ih84 H locs ls hI hl
          have hI : mI k ad10 (N + 1) g44 (mA ad N s.heap.size) s H locs := hI
          have hl : lv_has ls 6 [(0, .ref aS), (1, .int (nI co)), (2, .int (nI t9)), (3, .int (nI u)), (4, .ref (ad10 N)), (5, .int (nI q))] := hl
          have hcl84 : g44 N = .inl (k.2.1.2.2.2, 20, .inr (.inr (.inr (.inr (fun j => if j < q then some (ad10 (bs + (j + 1))) else none))))) := hcl84
          have hf84 : ∀ i, i ≠ N → g44 i = g43 i := hf84
          have hS : SR k ad10 bs (N + 1) g44 uns play rd n lat gar T (came + 1, mis + 1, lost, bel, fig, u, ln, pg) := SR.mid hS (fun i hi => hf84 i (by omega))
          have hF : FRA ad g bs ad10 g44 := FRA.go hF ⟨fun _ _ => rfl, fun _ _ _ => rfl, fun i _ hi => hf84 i (by omega)⟩
          have hG0 : ∀ i, i < 50 → g44 i = g i := fun i hi => (hf84 i (by omega)).trans (hG0 i hi)
          refine lv_iload hx hb dX4_come_84 (lv_at hl 5 rfl) ?_
          refine lv_aload hx hb dX4_come_86 (lv_at hl 4 rfl) ?_
          refine m_alen2 hx hb hE hI N (by omega) hcl84 dX4_come_88 ?_
          refine m_cgeN (tgt := 139) hx hb (by omega) (by omega) dX4_come_89 (by decide) (fun c_89 => ?_) (fun c_89 => ?_)
          · exact (show False by omega).elim
          · refine lv_aload hx hb dX4_come_92 (lv_at hl 4 rfl) ?_
            refine lv_iload hx hb dX4_come_94 (lv_at hl 5 rfl) ?_
            refine lv_iload hx hb dX4_come_96 (lv_at hl 5 rfl) ?_
            refine lv_iconst (v := nI 1) hx hb dX4_come_98 (by decide) ?_
            refine m_iaddN hx hb dX4_come_99 ?_
            refine lv_aload hx hb dX4_come_100 (lv_at hl 4 rfl) ?_
            refine m_alen2 hx hb hE hI N (by omega) hcl84 dX4_come_102 ?_
            refine m_cneN (tgt := 112) hx hb (by omega) (by omega) dX4_come_103 (by decide) (fun c_103 => ?_) (fun c_103 => ?_)
            · refine lv_aload_n hx hb dX4_come_112 rfl (lv_at hl 0 rfl) ?_
              refine m_stk (show ([.ref aS, .int (nI q), .ref (ad10 N)] : List Value) = [.ref (ad10 50), .int (nI q), .ref (ad10 N)] from by rw [haS]) ?_
              refine m_get (ci := 4) (C := RX4) (T := TX4) (N' := 14) hx hb hts (by decide +kernel) hown hE hI 50 (by omega) (show g44 50 = .inr (4, [.ref (ad10 51), .ref (ad10 52), .ref (ad10 53), .int (bI fig), .int (bI uns), .int (nI play), .ref (ad10 54), .ref (ad10 55), .ref (ad10 56), .int (nI rd), .int (nI (came + 1)), .int (mis + 1), .int lost, .int bel]) from hS.2.1) rfl 2 (by decide) (hts (.fieldLink RX4 23 "TapePrinterLaw$Sim" "page" "[[I") (by decide +kernel)) rfl dX4_come_113 ?_
              refine lv_iload_n hx hb dX4_come_116 rfl (lv_at hl 3 rfl) ?_
              refine lv_bipush (v := nI 20) hx hb dX4_come_117 (by decide) ?_
              refine m_cneN (tgt := 129) hx hb (by omega) (by omega) dX4_come_119 (by decide) (fun c_119 => ?_) (fun c_119 => ?_)
              · exact (show False by omega).elim
              · refine lv_iload hx hb dX4_come_122 (lv_at hl 5 rfl) ?_
                refine lv_iconst (v := nI 1) hx hb dX4_come_124 (by decide) ?_
                refine m_iaddN hx hb dX4_come_125 ?_
                refine lv_goto (tgt := 131) hx hb dX4_come_126 (by decide) ?_
                refine m_ald2 hx hb hE hI 53 (by omega) (j := q + 1) (show g44 53 = .inl (k.2.1.2.2.2, u, .inr (.inr (.inr (.inr (pgF ad10 bs u))))) from hS.2.2.2.2.1) (by omega) (by omega) dX4_come_131 ?_
                refine m_rf (pgF_in (by omega)) ?_
                have pr_10 : g44 (bs + (q + 1)) = .inl (k.2.1.1, ln (q + 1), .inl (fun i => nI (pg (q + 1) i))) := hS.2.2.2.2.2.2.2.2 (q + 1) (show q + 1 < u by omega)
                refine m_ast2 hx hb hE hI N (bs + (q + 1)) (by omega) (by omega) (j := q) hcl84 pr_10 (by omega) (by omega) dX4_come_132 (fun H locs hI => ?_)
                obtain ⟨g45, hg45⟩ : ∃ zz, zz = va_up g44 N (.inl (k.2.1.2.2.2, 20, .inr (.inr (.inr (.inr (va_up (fun j => if j < q then some (ad10 (bs + (j + 1))) else none) q (some (ad10 (bs + (q + 1)))))))))) := ⟨_, rfl⟩
                replace hI : mI k ad10 (N + 1) g45 (mA ad N s.heap.size) s H locs := by rw [hg45]; exact hI
                have hS : SR k ad10 bs (N + 1) g45 uns play rd n lat gar T (came + 1, mis + 1, lost, bel, fig, u, ln, pg) := by rw [hg45]; exact SR.off hS (by omega)
                have hF : FRA ad g bs ad10 g45 := by rw [hg45]; exact FRA.up hF (by omega)
                have hG0 : ∀ i, i < 50 → g45 i = g i := fun i hi => by rw [hg45]; exact (va_up_ne _ _ (by omega)).trans (hG0 i hi)
                have hcl84 : g45 N = .inl (k.2.1.2.2.2, 20, .inr (.inr (.inr (.inr (va_up (fun j => if j < q then some (ad10 (bs + (j + 1))) else none) q (some (ad10 (bs + (q + 1))))))))) := by rw [hg45, va_up_self]
                refine lv_iinc (v := nI (q + 1)) (lv' := [(5, .int (nI (q + 1))), (0, .ref aS), (1, .int (nI co)), (2, .int (nI t9)), (3, .int (nI u)), (4, .ref (ad10 N))]) hx hb dX4_come_133 hl (k := 5) rfl (nI_add q 1) (by decide) rfl (fun ls hl => ?_)
                refine lv_goto (tgt := 84) hx hb dX4_come_136 (by decide) ?_
                have hfr9 : ∀ i, i ≠ N → g45 i = g43 i := fun i hi => by rw [hg45, va_up_ne _ _ hi]; exact hf84 i hi
                rw [show va_up (fun j => if j < q then some (ad10 (bs + (j + 1))) else none) q (some (ad10 (bs + (q + 1)))) = fun j => if j < q + 1 then some (ad10 (bs + (j + 1))) else none from q_up (fun j => some (ad10 (bs + (j + 1)))) q] at hcl84
                exact ih84 (q + 1, g45) ⟨(by omega), hcl84, hfr9⟩ (show 20 - (q + 1) < 20 - q by omega) _ _ _ hI (lv_sub hl [1, 2, 3, 4, 5, 0] rfl)
            · refine lv_iconst (v := nI 0) hx hb dX4_come_106 (by decide) ?_
              refine m_newi (n := 0) (c1 := 3) (s1 := 25) hx hb (hts (.arrayClass .int) (by decide +kernel)) hE hI (by omega) (by omega) (by omega) (by show _ ≤ 4; omega) (by show _ ≤ 70; omega) dX4_come_107 (fun ad11 H hag11 hE hI => ?_)
              obtain ⟨g46, hg46⟩ : ∃ zz, zz = va_up g44 (N + 1) (.inl (k.2.1.1, 0, .inl (fun _ => nI 0))) := ⟨_, rfl⟩
              have hE : mE k ad11 (N + 2) (mA ad N s.heap.size) s := hE
              replace hI : mI k ad11 (N + 2) g46 (mA ad N s.heap.size) s H locs := by rw [hg46]; exact hI
              have hgg11 : ∀ i, i < N + 1 → g46 i = g44 i := fun i hi => by rw [hg46, va_up_ne _ _ (by omega)]
              have haS : ad11 50 = aS := by rw [hag11 50 (by omega)]; exact haS
              have hS : SR k ad11 bs (N + 2) g46 uns play rd n lat gar T (came + 1, mis + 1, lost, bel, fig, u, ln, pg) := SR.grow hS (by omega) (fun i hi => hag11 i (by omega)) (fun i hi => hgg11 i (by omega))
              have hF : FRA ad g bs ad11 g46 := FRA.go hF (FRA.of (N := (N + 1)) (by omega) (by omega) (fun i hi => hag11 i (by omega)) (fun i hi => hgg11 i (by omega)))
              have hG0 : ∀ i, i < 50 → g46 i = g i := fun i hi => (hgg11 i (by omega)).trans (hG0 i hi)
              have hcl84 : g46 N = .inl (k.2.1.2.2.2, 20, .inr (.inr (.inr (.inr (fun j => if j < q then some (ad10 (bs + (j + 1))) else none))))) := by rw [hgg11 _ (by omega)]; exact hcl84
              have hl : lv_has ls 6 [(0, .ref aS), (1, .int (nI co)), (2, .int (nI t9)), (3, .int (nI u)), (4, .ref (ad11 N)), (5, .int (nI q))] := by rw [hag11 N (by omega)]; exact hl
              have hnw11 : g46 (N + 1) = .inl (k.2.1.1, 0, .inl (fun _ => nI 0)) := by rw [hg46, va_up_self]
              refine m_stk (show ([.ref (ad11 (N + 1)), .int (nI q), .ref (ad10 N)] : List Value) = [.ref (ad11 (N + 1)), .int (nI q), .ref (ad11 N)] from by rw [hag11 N (by omega)]) ?_
              refine lv_goto (tgt := 132) hx hb dX4_come_109 (by decide) ?_
              refine m_ast2 hx hb hE hI N (N + 1) (by omega) (by omega) (j := q) hcl84 hnw11 (by omega) (by omega) dX4_come_132 (fun H locs hI => ?_)
              obtain ⟨g47, hg47⟩ : ∃ zz, zz = va_up g46 N (.inl (k.2.1.2.2.2, 20, .inr (.inr (.inr (.inr (va_up (fun j => if j < q then some (ad10 (bs + (j + 1))) else none) q (some (ad11 (N + 1))))))))) := ⟨_, rfl⟩
              replace hI : mI k ad11 (N + 2) g47 (mA ad N s.heap.size) s H locs := by rw [hg47]; exact hI
              have hS : SR k ad11 bs (N + 2) g47 uns play rd n lat gar T (came + 1, mis + 1, lost, bel, fig, u, ln, pg) := by rw [hg47]; exact SR.off hS (by omega)
              have hF : FRA ad g bs ad11 g47 := by rw [hg47]; exact FRA.up hF (by omega)
              have hG0 : ∀ i, i < 50 → g47 i = g i := fun i hi => by rw [hg47]; exact (va_up_ne _ _ (by omega)).trans (hG0 i hi)
              have hcl84 : g47 N = .inl (k.2.1.2.2.2, 20, .inr (.inr (.inr (.inr (va_up (fun j => if j < q then some (ad10 (bs + (j + 1))) else none) q (some (ad11 (N + 1)))))))) := by rw [hg47, va_up_self]
              have hnw11 : g47 (N + 1) = .inl (k.2.1.1, 0, .inl (fun _ => nI 0)) := by rw [hg47, va_up_ne _ _ (by omega)]; exact hnw11
              refine lv_iinc (v := nI (q + 1)) (lv' := [(5, .int (nI (q + 1))), (0, .ref aS), (1, .int (nI co)), (2, .int (nI t9)), (3, .int (nI u)), (4, .ref (ad11 N))]) hx hb dX4_come_133 hl (k := 5) rfl (nI_add q 1) (by decide) rfl (fun ls hl => ?_)
              refine lv_goto (tgt := 84) hx hb dX4_come_136 (by decide) ?_
              refine lv_iload hx hb dX4_come_84 (lv_at hl 0 rfl) ?_
              refine lv_aload hx hb dX4_come_86 (lv_at hl 5 rfl) ?_
              refine m_alen2 hx hb hE hI N (by omega) hcl84 dX4_come_88 ?_
              refine m_cgeN (tgt := 139) hx hb (by omega) (by omega) dX4_come_89 (by decide) (fun c_89 => ?_) (fun c_89 => ?_)
              · refine lv_aload_n hx hb dX4_come_139 rfl (lv_at hl 1 rfl) ?_
                refine lv_aload hx hb dX4_come_140 (lv_at hl 5 rfl) ?_
                refine m_stk (show ([.ref (ad11 N), .ref aS] : List Value) = [.ref (ad11 N), .ref (ad11 50)] from by rw [haS]) ?_
                refine m_put (ci := 4) (C := RX4) (T := TX4) (N' := 14) (ty := .array (.array .int)) hx hb hts (by decide +kernel) tyX4 tyX4_ok nmX4 hown hE hI 50 (by omega) (show g47 50 = .inr (4, [.ref (ad11 51), .ref (ad11 52), .ref (ad11 53), .int (bI fig), .int (bI uns), .int (nI play), .ref (ad11 54), .ref (ad11 55), .ref (ad11 56), .int (nI rd), .int (nI (came + 1)), .int (mis + 1), .int lost, .int bel]) from hS.2.1) rfl 2 (by decide) (hts (.fieldLink RX4 23 "TapePrinterLaw$Sim" "page" "[[I") (by decide +kernel)) rfl (by decide +kernel) rfl rfl (Nat.le_of_ble_eq_true rfl) dX4_come_142 (fun H locs hI => ?_)
                have hnl := SR.nlc (20) 1 N (N + 1) (va_up (fun l => ln (l + 1)) 19 0) (fun l => pg (l + 1)) hE hI hS (by omega) (by omega) (by omega) (by omega) (by omega) hcl84 (fun j hj => by
                  by_cases e1 : j = q
                  · rw [e1, va_up_self, if_pos c_103]
                  · rw [va_up_ne _ _ e1]; show (if j < q then some (ad10 (bs + (j + 1))) else none) = _; rw [if_pos (show j < q by omega), if_neg (show ¬ j + 1 = 20 by omega), hag11 _ (by omega)] <;> rfl) hnw11 (fun l hl => by
                  exact ⟨va_up_ne _ _ (by omega), rfl⟩) (by rw [show 20 - 1 = 19 by omega, va_up_self])
                obtain ⟨adP, gP, hE, hI, hFP, hGP, hS⟩ := hnl
                have hP : sNl (u, ln, pg) = (20, va_up (fun l => ln (l + 1)) 19 0, fun l => pg (l + 1)) := by unfold sNl; exact if_pos (by show u = 20; omega)
                obtain ⟨g48, hg48⟩ : ∃ zz, zz = gP := ⟨_, rfl⟩
                rw [← hg48] at hI hFP hGP hS
                have hE : mE k adP (bs + (20)) (mA ad N s.heap.size) s := hE
                have hI : mI k adP (bs + (20)) g48 (mA ad N s.heap.size) s H locs := hI
                have hS : SR k adP bs (bs + (20)) g48 uns play rd n lat gar T (came + 1, mis + 1, lost, bel, fig, 20, va_up (fun l => ln (l + 1)) 19 0, fun l => pg (l + 1)) := hS
                have hF : FRA ad g bs adP g48 := FRA.go hF hFP
                have hG0 : ∀ i, i < 50 → g48 i = g i := fun i hi => (hGP i hi).trans (hG0 i hi)
                have haS : adP 50 = aS := (hFP.1 50 (by omega)).trans haS
                have hl : lv_has ls 6 [(5, .int (nI (q + 1))), (0, .ref aS), (1, .int (nI co)), (2, .int (nI t9)), (3, .int (nI u))] := lv_sub hl [0, 1, 2, 3, 4] rfl
                refine m_via hI 167 ([.int (nI (chF t9 fig))]) (fun K => ?_) (fun H locs hI => ?_)
                · refine lv_aload_n hx hb dX4_come_145 rfl (lv_at hl 1 rfl) ?_
                  refine m_stk (show ([.ref aS] : List Value) = [.ref (adP 50)] from by rw [haS]) ?_
                  refine m_get (ci := 4) (C := RX4) (T := TX4) (N' := 14) hx hb hts (by decide +kernel) hown hE hI 50 (by omega) (show g48 50 = .inr (4, [.ref (adP 51), .ref (adP 52), .ref (adP 53), .int (bI fig), .int (bI uns), .int (nI play), .ref (adP 54), .ref (adP 55), .ref (adP 56), .int (nI rd), .int (nI (came + 1)), .int (mis + 1), .int lost, .int bel]) from hS.2.1) rfl 3 (by decide) (hts (.fieldLink RX4 57 "TapePrinterLaw$Sim" "isFigures" "Z") (by decide +kernel)) rfl dX4_come_146 ?_
                  refine m_zeqB (tgt := 161) hx hb dX4_come_149 (by decide) (fun c_149 => ?_) (fun c_149 => ?_)
                  · refine lv_aload_n hx hb dX4_come_161 rfl (lv_at hl 1 rfl) ?_
                    refine m_stk (show ([.ref aS] : List Value) = [.ref (adP 50)] from by rw [haS]) ?_
                    refine m_get (ci := 4) (C := RX4) (T := TX4) (N' := 14) hx hb hts (by decide +kernel) hown hE hI 50 (by omega) (show g48 50 = .inr (4, [.ref (adP 51), .ref (adP 52), .ref (adP 53), .int (bI fig), .int (bI uns), .int (nI play), .ref (adP 54), .ref (adP 55), .ref (adP 56), .int (nI rd), .int (nI (came + 1)), .int (mis + 1), .int lost, .int bel]) from hS.2.1) rfl 0 (by decide) (hts (.fieldLink RX4 13 "TapePrinterLaw$Sim" "letters" "[I") (by decide +kernel)) rfl dX4_come_162 ?_
                    refine lv_iload_n hx hb dX4_come_165 rfl (lv_at hl 3 rfl) ?_
                    refine m_iald hx hb hE hI 51 (by omega) (j := t9) (show g48 51 = .inl (k.2.1.1, 32, .inl (fun j => nI (chF j false))) from hS.2.2.1) (by omega) (by omega) dX4_come_166 ?_
                    refine m_top (show (fun j => nI (chF j false)) t9 = nI (chF t9 false) from rfl) ?_
                    refine m_top (show nI (chF t9 false) = nI (chF t9 fig) from by rw [c_149]) ?_
                    exact K H locs hI
                  · refine lv_aload_n hx hb dX4_come_152 rfl (lv_at hl 1 rfl) ?_
                    refine m_stk (show ([.ref aS] : List Value) = [.ref (adP 50)] from by rw [haS]) ?_
                    refine m_get (ci := 4) (C := RX4) (T := TX4) (N' := 14) hx hb hts (by decide +kernel) hown hE hI 50 (by omega) (show g48 50 = .inr (4, [.ref (adP 51), .ref (adP 52), .ref (adP 53), .int (bI fig), .int (bI uns), .int (nI play), .ref (adP 54), .ref (adP 55), .ref (adP 56), .int (nI rd), .int (nI (came + 1)), .int (mis + 1), .int lost, .int bel]) from hS.2.1) rfl 1 (by decide) (hts (.fieldLink RX4 19 "TapePrinterLaw$Sim" "figures" "[I") (by decide +kernel)) rfl dX4_come_153 ?_
                    refine lv_iload_n hx hb dX4_come_156 rfl (lv_at hl 3 rfl) ?_
                    refine m_iald hx hb hE hI 52 (by omega) (j := t9) (show g48 52 = .inl (k.2.1.1, 32, .inl (fun j => nI (chF j true))) from hS.2.2.2.1) (by omega) (by omega) dX4_come_157 ?_
                    refine m_top (show (fun j => nI (chF j true)) t9 = nI (chF t9 true) from rfl) ?_
                    refine lv_goto (tgt := 167) hx hb dX4_come_158 (by decide) ?_
                    refine m_top (show nI (chF t9 true) = nI (chF t9 fig) from by rw [c_149]) ?_
                    exact K H locs hI
                have hch := chF_le t9 ht32 fig
                have h54 : chF t9 fig = 54 := by rw [c_53]; exact chF_2 fig
                refine lv_istore_n (lv' := [(3, .int (nI (chF t9 fig))), (5, .int (nI (q + 1))), (0, .ref aS), (1, .int (nI co)), (2, .int (nI t9))]) hx hb dX4_come_167 rfl hl (by decide) rfl (fun ls hl => ?_)
                refine lv_iload_n hx hb dX4_come_168 rfl (lv_at hl 0 rfl) ?_
                refine m_zleN (tgt := 230) hx hb (by omega) dX4_come_169 (by decide) (fun c_169 => ?_) (fun c_169 => ?_)
                · exact (show False by omega).elim
                · refine lv_iload_n hx hb dX4_come_172 rfl (lv_at hl 4 rfl) ?_
                  refine lv_iconst (v := nI 2) hx hb dX4_come_173 (by decide) ?_
                  refine m_ceqN (tgt := 230) hx hb (by omega) (by omega) dX4_come_174 (by decide) (fun c_174 => ?_) (fun c_174 => ?_)
                  · refine lv_aload_n hx hb dX4_come_230 rfl (lv_at hl 2 rfl) ?_
                    refine lv_aload_n hx hb dX4_come_231 rfl (lv_at hl 2 rfl) ?_
                    refine lv_aload_n hx hb dX4_come_232 rfl (lv_at hl 2 rfl) ?_
                    refine m_stk (show ([.ref aS, .ref aS, .ref aS] : List Value) = [.ref (adP 50), .ref aS, .ref aS] from by rw [haS]) ?_
                    refine m_get (ci := 4) (C := RX4) (T := TX4) (N' := 14) hx hb hts (by decide +kernel) hown hE hI 50 (by omega) (show g48 50 = .inr (4, [.ref (adP 51), .ref (adP 52), .ref (adP 53), .int (bI fig), .int (bI uns), .int (nI play), .ref (adP 54), .ref (adP 55), .ref (adP 56), .int (nI rd), .int (nI (came + 1)), .int (mis + 1), .int lost, .int bel]) from hS.2.1) rfl 3 (by decide) (hts (.fieldLink RX4 57 "TapePrinterLaw$Sim" "isFigures" "Z") (by decide +kernel)) rfl dX4_come_233 ?_
                    refine lv_iload_n hx hb dX4_come_236 rfl (lv_at hl 4 rfl) ?_
                    refine m_stk (show ([.int (nI t9), .int (bI fig), .ref aS, .ref aS] : List Value) = [.int (nI t9), .int (bI fig), .ref (adP 50), .ref aS] from by rw [haS]) ?_
                    refine m_callVi (As := [.int (bI fig), .int (nI t9)]) (rest := [.ref aS]) ⟨hx, hb, hml, hown, hts⟩ hE hI (c_X4_after k l adP (bs + (20)) g48 _ uns play rd n lat gar T (came + 1) (mis + 1) lost bel fig 20 (va_up (fun l => ln (l + 1)) 19 0) (fun l => pg (l + 1)) bs fig t9 (by omega) hS) (cwV 2 hts gX4_come_X4_after rfl rfl rfl (by decide +kernel) ⟨Nat.le_of_ble_eq_true rfl, Nat.le_of_ble_eq_true rfl⟩) (i := 50) (by omega) (show g48 50 = .inr (4, [.ref (adP 51), .ref (adP 52), .ref (adP 53), .int (bI fig), .int (bI uns), .int (nI play), .ref (adP 54), .ref (adP 55), .ref (adP 56), .int (nI rd), .int (nI (came + 1)), .int (mis + 1), .int lost, .int bel]) from hS.2.1) rfl rfl hl.1 rfl (Nat.le_of_ble_eq_true rfl) dX4_come_237 ⟨(by show _ ≤ 4; omega), (by show _ ≤ 70; omega)⟩ (m_deti (fun H locs hI => ?_))
                    refine m_stk (show ([.int (bI (fb uns t9 fig)), .ref aS] : List Value) = [.int (bI (fb uns t9 fig)), .ref (adP 50)] from by rw [haS]) ?_
                    refine m_put (ci := 4) (C := RX4) (T := TX4) (N' := 14) (ty := .boolean) hx hb hts (by decide +kernel) tyX4 tyX4_ok nmX4 hown hE hI 50 (by omega) (show g48 50 = .inr (4, [.ref (adP 51), .ref (adP 52), .ref (adP 53), .int (bI fig), .int (bI uns), .int (nI play), .ref (adP 54), .ref (adP 55), .ref (adP 56), .int (nI rd), .int (nI (came + 1)), .int (mis + 1), .int lost, .int bel]) from hS.2.1) rfl 3 (by decide) (hts (.fieldLink RX4 57 "TapePrinterLaw$Sim" "isFigures" "Z") (by decide +kernel)) rfl (by decide +kernel) (bI_nar _) (bI_fit _) (Nat.le_of_ble_eq_true rfl) dX4_come_240 (fun H locs hI => ?_)
                    obtain ⟨g49, hg49⟩ : ∃ zz, zz = va_up g48 50 (.inr (4, [.ref (adP 51), .ref (adP 52), .ref (adP 53), .int (bI (fb uns t9 fig)), .int (bI uns), .int (nI play), .ref (adP 54), .ref (adP 55), .ref (adP 56), .int (nI rd), .int (nI (came + 1)), .int (mis + 1), .int lost, .int bel])) := ⟨_, rfl⟩
                    replace hI : mI k adP (bs + (20)) g49 (mA ad N s.heap.size) s H locs := by rw [hg49]; exact hI
                    have hS : SR k adP bs (bs + (20)) g49 uns play rd n lat gar T (came + 1, mis + 1, lost, bel, fb uns t9 fig, 20, va_up (fun l => ln (l + 1)) 19 0, fun l => pg (l + 1)) := by rw [hg49]; exact SR.obj hS
                    have hF : FRA ad g bs adP g49 := by rw [hg49]; exact FRA.up hF (by omega)
                    have hG0 : ∀ i, i < 50 → g49 i = g i := fun i hi => by rw [hg49]; exact (va_up_ne _ _ (by omega)).trans (hG0 i hi)
                    refine lv_iload_n hx hb dX4_come_243 rfl (lv_at hl 4 rfl) ?_
                    have hl9 : lOb sFull (chF t9 fig) (u, ln, pg) lost = lost := by unfold lOb; rw [if_pos h54]
                    have hp9 : pOb sNl sFull sAdd (chF t9 fig) (u, ln, pg) = (20, va_up (fun l => ln (l + 1)) 19 0, fun l => pg (l + 1)) := by unfold pOb; rw [if_pos h54, hP]
                    have hy : yIn sNl sFull sAdd uns play lat gar co (came, mis, lost, bel, fig, u, ln, pg) = (came + 1, mis + 1, lost, bel, fb uns t9 fig, (20, va_up (fun l => ln (l + 1)) 19 0, fun l => pg (l + 1))) := by
                      show (came + 1, (if rdY play lat gar came co = co then mis else mis + 1), lOb sFull (chF (rdY play lat gar came co) fig) (u, ln, pg) lost, (if rdY play lat gar came co = 8 then bel + 1 else bel), fb uns (rdY play lat gar came co) fig, pOb sNl sFull sAdd (chF (rdY play lat gar came co) fig) (u, ln, pg)) = _
                      rw [← ht9, if_neg c_22, if_neg c_38, hl9, hp9]
                    exact m_giret hx hb hr hlocks hE hI (post := fun (r : Int32) (ad1 : Nat → Nat) (N1 : Nat) (g1 : Nat → va_E) => r = nI (rdY play lat gar came co) ∧ FRA ad g bs ad1 g1 ∧ (∀ i, i < 50 → g1 i = g i) ∧ SR k ad1 bs N1 g1 uns play rd n lat gar T (yIn sNl sFull sAdd uns play lat gar co (came, mis, lost, bel, fig, u, ln, pg))) (v := nI t9) (⟨by rw [ht9], hF, hG0, by rw [hy]; exact hS⟩) (by omega) (by omega) dX4_come_244
                  · exact (show False by omega).elim
              · exact (show False by omega).elim
    · refine lv_aload_n hx hb dX4_come_41 rfl (lv_at hl 1 rfl) ?_
      refine lv_dup hx hb dX4_come_42 rfl ?_
      refine m_stk (show ([.ref aS, .ref aS] : List Value) = [.ref (ad 50), .ref aS] from by rw [haS]) ?_
      refine m_get (ci := 4) (C := RX4) (T := TX4) (N' := 14) hx hb hts (by decide +kernel) hown hE hI 50 (by omega) (show g29 50 = .inr (4, [.ref (ad 51), .ref (ad 52), .ref (ad 53), .int (bI fig), .int (bI uns), .int (nI play), .ref (ad 54), .ref (ad 55), .ref (ad 56), .int (nI rd), .int (nI (came + 1)), .int (mis + 1), .int lost, .int bel]) from hS.2.1) rfl 13 (by decide) (hts (.fieldLink RX4 54 "TapePrinterLaw$Sim" "rang" "I") (by decide +kernel)) rfl dX4_come_43 ?_
      refine lv_iconst (v := nI 1) hx hb dX4_come_46 (by decide) ?_
      refine lv_iadd hx hb dX4_come_47 ?_
      refine m_top (show bel + (nI 1) = bel + 1 from rfl) ?_
      refine m_stk (show ([.int (bel + 1), .ref aS] : List Value) = [.int (bel + 1), .ref (ad 50)] from by rw [haS]) ?_
      refine m_put (ci := 4) (C := RX4) (T := TX4) (N' := 14) (ty := .int) hx hb hts (by decide +kernel) tyX4 tyX4_ok nmX4 hown hE hI 50 (by omega) (show g29 50 = .inr (4, [.ref (ad 51), .ref (ad 52), .ref (ad 53), .int (bI fig), .int (bI uns), .int (nI play), .ref (ad 54), .ref (ad 55), .ref (ad 56), .int (nI rd), .int (nI (came + 1)), .int (mis + 1), .int lost, .int bel]) from hS.2.1) rfl 13 (by decide) (hts (.fieldLink RX4 54 "TapePrinterLaw$Sim" "rang" "I") (by decide +kernel)) rfl (by decide +kernel) rfl rfl (Nat.le_of_ble_eq_true rfl) dX4_come_48 (fun H locs hI => ?_)
      obtain ⟨g50, hg50⟩ : ∃ zz, zz = va_up g29 50 (.inr (4, [.ref (ad 51), .ref (ad 52), .ref (ad 53), .int (bI fig), .int (bI uns), .int (nI play), .ref (ad 54), .ref (ad 55), .ref (ad 56), .int (nI rd), .int (nI (came + 1)), .int (mis + 1), .int lost, .int (bel + 1)])) := ⟨_, rfl⟩
      replace hI : mI k ad N g50 (mA ad N s.heap.size) s H locs := by rw [hg50]; exact hI
      have hS : SR k ad bs N g50 uns play rd n lat gar T (came + 1, mis + 1, lost, bel + 1, fig, u, ln, pg) := by rw [hg50]; exact SR.obj hS
      have hF : FRA ad g bs ad g50 := by rw [hg50]; exact FRA.up hF (by omega)
      have hG0 : ∀ i, i < 50 → g50 i = g i := fun i hi => by rw [hg50]; exact (va_up_ne _ _ (by omega)).trans (hG0 i hi)
      refine lv_iload_n hx hb dX4_come_51 rfl (lv_at hl 0 rfl) ?_
      refine lv_iconst (v := nI 2) hx hb dX4_come_52 (by decide) ?_
      refine m_cneN (tgt := 145) hx hb (by omega) (by omega) dX4_come_53 (by decide) (fun c_53 => ?_) (fun c_53 => ?_)
      · refine m_via hI 167 ([.int (nI (chF t9 fig))]) (fun K => ?_) (fun H locs hI => ?_)
        · refine lv_aload_n hx hb dX4_come_145 rfl (lv_at hl 1 rfl) ?_
          refine m_stk (show ([.ref aS] : List Value) = [.ref (ad 50)] from by rw [haS]) ?_
          refine m_get (ci := 4) (C := RX4) (T := TX4) (N' := 14) hx hb hts (by decide +kernel) hown hE hI 50 (by omega) (show g50 50 = .inr (4, [.ref (ad 51), .ref (ad 52), .ref (ad 53), .int (bI fig), .int (bI uns), .int (nI play), .ref (ad 54), .ref (ad 55), .ref (ad 56), .int (nI rd), .int (nI (came + 1)), .int (mis + 1), .int lost, .int (bel + 1)]) from hS.2.1) rfl 3 (by decide) (hts (.fieldLink RX4 57 "TapePrinterLaw$Sim" "isFigures" "Z") (by decide +kernel)) rfl dX4_come_146 ?_
          refine m_zeqB (tgt := 161) hx hb dX4_come_149 (by decide) (fun c_149 => ?_) (fun c_149 => ?_)
          · refine lv_aload_n hx hb dX4_come_161 rfl (lv_at hl 1 rfl) ?_
            refine m_stk (show ([.ref aS] : List Value) = [.ref (ad 50)] from by rw [haS]) ?_
            refine m_get (ci := 4) (C := RX4) (T := TX4) (N' := 14) hx hb hts (by decide +kernel) hown hE hI 50 (by omega) (show g50 50 = .inr (4, [.ref (ad 51), .ref (ad 52), .ref (ad 53), .int (bI fig), .int (bI uns), .int (nI play), .ref (ad 54), .ref (ad 55), .ref (ad 56), .int (nI rd), .int (nI (came + 1)), .int (mis + 1), .int lost, .int (bel + 1)]) from hS.2.1) rfl 0 (by decide) (hts (.fieldLink RX4 13 "TapePrinterLaw$Sim" "letters" "[I") (by decide +kernel)) rfl dX4_come_162 ?_
            refine lv_iload_n hx hb dX4_come_165 rfl (lv_at hl 0 rfl) ?_
            refine m_iald hx hb hE hI 51 (by omega) (j := t9) (show g50 51 = .inl (k.2.1.1, 32, .inl (fun j => nI (chF j false))) from hS.2.2.1) (by omega) (by omega) dX4_come_166 ?_
            refine m_top (show (fun j => nI (chF j false)) t9 = nI (chF t9 false) from rfl) ?_
            refine m_top (show nI (chF t9 false) = nI (chF t9 fig) from by rw [c_149]) ?_
            exact K H locs hI
          · refine lv_aload_n hx hb dX4_come_152 rfl (lv_at hl 1 rfl) ?_
            refine m_stk (show ([.ref aS] : List Value) = [.ref (ad 50)] from by rw [haS]) ?_
            refine m_get (ci := 4) (C := RX4) (T := TX4) (N' := 14) hx hb hts (by decide +kernel) hown hE hI 50 (by omega) (show g50 50 = .inr (4, [.ref (ad 51), .ref (ad 52), .ref (ad 53), .int (bI fig), .int (bI uns), .int (nI play), .ref (ad 54), .ref (ad 55), .ref (ad 56), .int (nI rd), .int (nI (came + 1)), .int (mis + 1), .int lost, .int (bel + 1)]) from hS.2.1) rfl 1 (by decide) (hts (.fieldLink RX4 19 "TapePrinterLaw$Sim" "figures" "[I") (by decide +kernel)) rfl dX4_come_153 ?_
            refine lv_iload_n hx hb dX4_come_156 rfl (lv_at hl 0 rfl) ?_
            refine m_iald hx hb hE hI 52 (by omega) (j := t9) (show g50 52 = .inl (k.2.1.1, 32, .inl (fun j => nI (chF j true))) from hS.2.2.2.1) (by omega) (by omega) dX4_come_157 ?_
            refine m_top (show (fun j => nI (chF j true)) t9 = nI (chF t9 true) from rfl) ?_
            refine lv_goto (tgt := 167) hx hb dX4_come_158 (by decide) ?_
            refine m_top (show nI (chF t9 true) = nI (chF t9 fig) from by rw [c_149]) ?_
            exact K H locs hI
        have hch := chF_le t9 ht32 fig
        have h54 : chF t9 fig ≠ 54 := chF_54 t9 ht32 c_53 fig
        refine lv_istore_n (lv' := [(3, .int (nI (chF t9 fig))), (2, .int (nI t9)), (0, .ref aS), (1, .int (nI co))]) hx hb dX4_come_167 rfl hl (by decide) rfl (fun ls hl => ?_)
        refine lv_iload_n hx hb dX4_come_168 rfl (lv_at hl 0 rfl) ?_
        refine m_zleN (tgt := 230) hx hb (by omega) dX4_come_169 (by decide) (fun c_169 => ?_) (fun c_169 => ?_)
        · refine lv_aload_n hx hb dX4_come_230 rfl (lv_at hl 2 rfl) ?_
          refine lv_aload_n hx hb dX4_come_231 rfl (lv_at hl 2 rfl) ?_
          refine lv_aload_n hx hb dX4_come_232 rfl (lv_at hl 2 rfl) ?_
          refine m_stk (show ([.ref aS, .ref aS, .ref aS] : List Value) = [.ref (ad 50), .ref aS, .ref aS] from by rw [haS]) ?_
          refine m_get (ci := 4) (C := RX4) (T := TX4) (N' := 14) hx hb hts (by decide +kernel) hown hE hI 50 (by omega) (show g50 50 = .inr (4, [.ref (ad 51), .ref (ad 52), .ref (ad 53), .int (bI fig), .int (bI uns), .int (nI play), .ref (ad 54), .ref (ad 55), .ref (ad 56), .int (nI rd), .int (nI (came + 1)), .int (mis + 1), .int lost, .int (bel + 1)]) from hS.2.1) rfl 3 (by decide) (hts (.fieldLink RX4 57 "TapePrinterLaw$Sim" "isFigures" "Z") (by decide +kernel)) rfl dX4_come_233 ?_
          refine lv_iload_n hx hb dX4_come_236 rfl (lv_at hl 1 rfl) ?_
          refine m_stk (show ([.int (nI t9), .int (bI fig), .ref aS, .ref aS] : List Value) = [.int (nI t9), .int (bI fig), .ref (ad 50), .ref aS] from by rw [haS]) ?_
          refine m_callVi (As := [.int (bI fig), .int (nI t9)]) (rest := [.ref aS]) ⟨hx, hb, hml, hown, hts⟩ hE hI (c_X4_after k l ad N g50 _ uns play rd n lat gar T (came + 1) (mis + 1) lost (bel + 1) fig u ln pg bs fig t9 (by omega) hS) (cwV 2 hts gX4_come_X4_after rfl rfl rfl (by decide +kernel) ⟨Nat.le_of_ble_eq_true rfl, Nat.le_of_ble_eq_true rfl⟩) (i := 50) (by omega) (show g50 50 = .inr (4, [.ref (ad 51), .ref (ad 52), .ref (ad 53), .int (bI fig), .int (bI uns), .int (nI play), .ref (ad 54), .ref (ad 55), .ref (ad 56), .int (nI rd), .int (nI (came + 1)), .int (mis + 1), .int lost, .int (bel + 1)]) from hS.2.1) rfl rfl hl.1 rfl (Nat.le_of_ble_eq_true rfl) dX4_come_237 ⟨(by show _ ≤ 4; omega), (by show _ ≤ 70; omega)⟩ (m_deti (fun H locs hI => ?_))
          refine m_stk (show ([.int (bI (fb uns t9 fig)), .ref aS] : List Value) = [.int (bI (fb uns t9 fig)), .ref (ad 50)] from by rw [haS]) ?_
          refine m_put (ci := 4) (C := RX4) (T := TX4) (N' := 14) (ty := .boolean) hx hb hts (by decide +kernel) tyX4 tyX4_ok nmX4 hown hE hI 50 (by omega) (show g50 50 = .inr (4, [.ref (ad 51), .ref (ad 52), .ref (ad 53), .int (bI fig), .int (bI uns), .int (nI play), .ref (ad 54), .ref (ad 55), .ref (ad 56), .int (nI rd), .int (nI (came + 1)), .int (mis + 1), .int lost, .int (bel + 1)]) from hS.2.1) rfl 3 (by decide) (hts (.fieldLink RX4 57 "TapePrinterLaw$Sim" "isFigures" "Z") (by decide +kernel)) rfl (by decide +kernel) (bI_nar _) (bI_fit _) (Nat.le_of_ble_eq_true rfl) dX4_come_240 (fun H locs hI => ?_)
          obtain ⟨g51, hg51⟩ : ∃ zz, zz = va_up g50 50 (.inr (4, [.ref (ad 51), .ref (ad 52), .ref (ad 53), .int (bI (fb uns t9 fig)), .int (bI uns), .int (nI play), .ref (ad 54), .ref (ad 55), .ref (ad 56), .int (nI rd), .int (nI (came + 1)), .int (mis + 1), .int lost, .int (bel + 1)])) := ⟨_, rfl⟩
          replace hI : mI k ad N g51 (mA ad N s.heap.size) s H locs := by rw [hg51]; exact hI
          have hS : SR k ad bs N g51 uns play rd n lat gar T (came + 1, mis + 1, lost, bel + 1, fb uns t9 fig, u, ln, pg) := by rw [hg51]; exact SR.obj hS
          have hF : FRA ad g bs ad g51 := by rw [hg51]; exact FRA.up hF (by omega)
          have hG0 : ∀ i, i < 50 → g51 i = g i := fun i hi => by rw [hg51]; exact (va_up_ne _ _ (by omega)).trans (hG0 i hi)
          refine lv_iload_n hx hb dX4_come_243 rfl (lv_at hl 1 rfl) ?_
          have hl9 : lOb sFull (chF t9 fig) (u, ln, pg) lost = lost := by unfold lOb; rw [if_neg h54, if_pos c_169]
          have hp9 : pOb sNl sFull sAdd (chF t9 fig) (u, ln, pg) = (u, ln, pg) := by unfold pOb; rw [if_neg h54, if_pos c_169]
          have hy : yIn sNl sFull sAdd uns play lat gar co (came, mis, lost, bel, fig, u, ln, pg) = (came + 1, mis + 1, lost, bel + 1, fb uns t9 fig, (u, ln, pg)) := by
            show (came + 1, (if rdY play lat gar came co = co then mis else mis + 1), lOb sFull (chF (rdY play lat gar came co) fig) (u, ln, pg) lost, (if rdY play lat gar came co = 8 then bel + 1 else bel), fb uns (rdY play lat gar came co) fig, pOb sNl sFull sAdd (chF (rdY play lat gar came co) fig) (u, ln, pg)) = _
            rw [← ht9, if_neg c_22, if_pos c_38, hl9, hp9]
          exact m_giret hx hb hr hlocks hE hI (post := fun (r : Int32) (ad1 : Nat → Nat) (N1 : Nat) (g1 : Nat → va_E) => r = nI (rdY play lat gar came co) ∧ FRA ad g bs ad1 g1 ∧ (∀ i, i < 50 → g1 i = g i) ∧ SR k ad1 bs N1 g1 uns play rd n lat gar T (yIn sNl sFull sAdd uns play lat gar co (came, mis, lost, bel, fig, u, ln, pg))) (v := nI t9) (⟨by rw [ht9], hF, hG0, by rw [hy]; exact hS⟩) (by omega) (by omega) dX4_come_244
        · refine lv_iload_n hx hb dX4_come_172 rfl (lv_at hl 1 rfl) ?_
          refine lv_iconst (v := nI 2) hx hb dX4_come_173 (by decide) ?_
          refine m_ceqN (tgt := 230) hx hb (by omega) (by omega) dX4_come_174 (by decide) (fun c_174 => ?_) (fun c_174 => ?_)
          · exact (show False by omega).elim
          · refine lv_aload_n hx hb dX4_come_177 rfl (lv_at hl 2 rfl) ?_
            refine m_stk (show ([.ref aS] : List Value) = [.ref (ad 50)] from by rw [haS]) ?_
            refine m_get (ci := 4) (C := RX4) (T := TX4) (N' := 14) hx hb hts (by decide +kernel) hown hE hI 50 (by omega) (show g50 50 = .inr (4, [.ref (ad 51), .ref (ad 52), .ref (ad 53), .int (bI fig), .int (bI uns), .int (nI play), .ref (ad 54), .ref (ad 55), .ref (ad 56), .int (nI rd), .int (nI (came + 1)), .int (mis + 1), .int lost, .int (bel + 1)]) from hS.2.1) rfl 2 (by decide) (hts (.fieldLink RX4 23 "TapePrinterLaw$Sim" "page" "[[I") (by decide +kernel)) rfl dX4_come_178 ?_
            refine m_alen2 hx hb hE hI 53 (by omega) (show g50 53 = .inl (k.2.1.2.2.2, u, .inr (.inr (.inr (.inr (pgF ad bs u))))) from hS.2.2.2.2.1) dX4_come_181 ?_
            refine lv_iconst (v := nI 1) hx hb dX4_come_182 (by decide) ?_
            refine m_isubN hx hb (by omega) dX4_come_183 ?_
            refine lv_istore (lv' := [(4, .int (nI (u - 1))), (3, .int (nI (chF t9 fig))), (2, .int (nI t9)), (0, .ref aS), (1, .int (nI co))]) hx hb dX4_come_184 hl (by decide) rfl (fun ls hl => ?_)
            refine lv_aload_n hx hb dX4_come_186 rfl (lv_at hl 3 rfl) ?_
            refine m_stk (show ([.ref aS] : List Value) = [.ref (ad 50)] from by rw [haS]) ?_
            refine m_get (ci := 4) (C := RX4) (T := TX4) (N' := 14) hx hb hts (by decide +kernel) hown hE hI 50 (by omega) (show g50 50 = .inr (4, [.ref (ad 51), .ref (ad 52), .ref (ad 53), .int (bI fig), .int (bI uns), .int (nI play), .ref (ad 54), .ref (ad 55), .ref (ad 56), .int (nI rd), .int (nI (came + 1)), .int (mis + 1), .int lost, .int (bel + 1)]) from hS.2.1) rfl 2 (by decide) (hts (.fieldLink RX4 23 "TapePrinterLaw$Sim" "page" "[[I") (by decide +kernel)) rfl dX4_come_187 ?_
            refine lv_iload hx hb dX4_come_190 (lv_at hl 0 rfl) ?_
            refine m_ald2 hx hb hE hI 53 (by omega) (j := u - 1) (show g50 53 = .inl (k.2.1.2.2.2, u, .inr (.inr (.inr (.inr (pgF ad bs u))))) from hS.2.2.2.2.1) (by omega) (by omega) dX4_come_192 ?_
            refine m_rf (pgF_in (by omega)) ?_
            have pr_11 : g50 (bs + (u - 1)) = .inl (k.2.1.1, ln (u - 1), .inl (fun i => nI (pg (u - 1) i))) := hS.2.2.2.2.2.2.2.2 (u - 1) (show u - 1 < u by omega)
            refine m_aleni hx hb hE hI (bs + (u - 1)) (by omega) pr_11 dX4_come_193 ?_
            refine lv_bipush (v := nI 40) hx hb dX4_come_194 (by decide) ?_
            refine m_cneN (tgt := 212) hx hb (by omega) (by omega) dX4_come_196 (by decide) (fun c_196 => ?_) (fun c_196 => ?_)
            · refine lv_aload_n hx hb dX4_come_212 rfl (lv_at hl 3 rfl) ?_
              refine m_stk (show ([.ref aS] : List Value) = [.ref (ad 50)] from by rw [haS]) ?_
              refine m_get (ci := 4) (C := RX4) (T := TX4) (N' := 14) hx hb hts (by decide +kernel) hown hE hI 50 (by omega) (show g50 50 = .inr (4, [.ref (ad 51), .ref (ad 52), .ref (ad 53), .int (bI fig), .int (bI uns), .int (nI play), .ref (ad 54), .ref (ad 55), .ref (ad 56), .int (nI rd), .int (nI (came + 1)), .int (mis + 1), .int lost, .int (bel + 1)]) from hS.2.1) rfl 2 (by decide) (hts (.fieldLink RX4 23 "TapePrinterLaw$Sim" "page" "[[I") (by decide +kernel)) rfl dX4_come_213 ?_
              refine lv_iload hx hb dX4_come_216 (lv_at hl 0 rfl) ?_
              refine lv_aload_n hx hb dX4_come_218 rfl (lv_at hl 3 rfl) ?_
              refine m_stk (show ([.ref aS, .int (nI (u - 1)), .ref (ad 53)] : List Value) = [.ref (ad 50), .int (nI (u - 1)), .ref (ad 53)] from by rw [haS]) ?_
              refine m_get (ci := 4) (C := RX4) (T := TX4) (N' := 14) hx hb hts (by decide +kernel) hown hE hI 50 (by omega) (show g50 50 = .inr (4, [.ref (ad 51), .ref (ad 52), .ref (ad 53), .int (bI fig), .int (bI uns), .int (nI play), .ref (ad 54), .ref (ad 55), .ref (ad 56), .int (nI rd), .int (nI (came + 1)), .int (mis + 1), .int lost, .int (bel + 1)]) from hS.2.1) rfl 2 (by decide) (hts (.fieldLink RX4 23 "TapePrinterLaw$Sim" "page" "[[I") (by decide +kernel)) rfl dX4_come_219 ?_
              refine lv_iload hx hb dX4_come_222 (lv_at hl 0 rfl) ?_
              refine m_ald2 hx hb hE hI 53 (by omega) (j := u - 1) (show g50 53 = .inl (k.2.1.2.2.2, u, .inr (.inr (.inr (.inr (pgF ad bs u))))) from hS.2.2.2.2.1) (by omega) (by omega) dX4_come_224 ?_
              refine m_rf (pgF_in (by omega)) ?_
              have pr_12 : g50 (bs + (u - 1)) = .inl (k.2.1.1, ln (u - 1), .inl (fun i => nI (pg (u - 1) i))) := hS.2.2.2.2.2.2.2.2 (u - 1) (show u - 1 < u by omega)
              refine lv_iload_n hx hb dX4_come_225 rfl (lv_at hl 1 rfl) ?_
              refine m_callSgq (As := [.ref (ad (bs + (u - 1))), .int (nI (chF t9 fig))]) (rest := [.int (nI (u - 1)), .ref (ad 53)]) (c1 := 2) (s1 := 5 + ((ln (u - 1)) + 1)) ⟨hx, hb, hml, hown, hts⟩ hE hI (c_X4_more k l ad N g50 _ (bs + (u - 1)) (ln (u - 1)) (fun i => nI (pg (u - 1) i)) (fun i => nI (va_up (pg (u - 1)) (ln (u - 1)) (chF t9 fig) i)) (nI (chF t9 fig)) (by omega) (by omega) pr_12 (fun j hj => by rw [va_up_ne _ _ (by omega)]) (by rw [va_up_self])) (va_cwS 2 hts gX4_come_X4_more rfl rfl rfl (by decide +kernel) ⟨Nat.le_of_ble_eq_true rfl, Nat.le_of_ble_eq_true rfl⟩) rfl hl.1 rfl (Nat.le_of_ble_eq_true rfl) dX4_come_226 (by omega) (by omega) ⟨(by show _ ≤ 4; omega), (by show _ ≤ 70; omega)⟩ (fun r9 ad12 N12 g9 H locs hp hE hI => ?_)
              obtain ⟨g52, hg52⟩ : ∃ zz, zz = g9 := ⟨_, rfl⟩
              rw [← hg52] at hp hI
              obtain ⟨hr12, hn12, hag12, hgg12, hnw12⟩ := hp
              subst hn12
              have hE : mE k ad12 (N + 1) (mA ad N s.heap.size) s := hE
              have hI : mI k ad12 (N + 1) g52 (mA ad N s.heap.size) s H locs := hI
              subst hr12
              replace hgg12 : ∀ i, i < N → g52 i = g50 i := hgg12
              have haS : ad12 50 = aS := by rw [hag12 50 (by omega)]; exact haS
              have hS : SR k ad12 bs (N + 1) g52 uns play rd n lat gar T (came + 1, mis + 1, lost, bel + 1, fig, u, ln, pg) := SR.grow hS (by omega) (fun i hi => hag12 i (by omega)) (fun i hi => hgg12 i (by omega))
              have hF : FRA ad g bs ad12 g52 := FRA.go hF (FRA.of (N := N) (by omega) (by omega) (fun i hi => hag12 i (by omega)) (fun i hi => hgg12 i (by omega)))
              have hG0 : ∀ i, i < 50 → g52 i = g i := fun i hi => (hgg12 i (by omega)).trans (hG0 i hi)
              have hnw12 : g52 N = .inl (k.2.1.1, ((ln (u - 1)) + 1), .inl (fun i => nI (va_up (pg (u - 1)) (ln (u - 1)) (chF t9 fig) i))) := hnw12
              show W p l e _ s m _ below meth c _ _ _ _ _ (F0 m _ _ (.ref (ad12 N) :: _))
              refine m_stk (show ([.ref (ad12 N), .int (nI (u - 1)), .ref (ad 53)] : List Value) = [.ref (ad12 N), .int (nI (u - 1)), .ref (ad12 53)] from by rw [hag12 53 (by omega)]) ?_
              refine m_ast2 hx hb hE hI 53 N (by omega) (by omega) (j := u - 1) (show g52 53 = .inl (k.2.1.2.2.2, u, .inr (.inr (.inr (.inr (pgF ad12 bs u))))) from hS.2.2.2.2.1) hnw12 (by omega) (by omega) dX4_come_229 (fun H locs hI => ?_)
              obtain ⟨adP, gP, hE, hI, hFP, hGP, hS⟩ := SR.row N (chF t9 fig) hE hI hS hu0 (by omega) hnw12
              obtain ⟨g53, hg53⟩ : ∃ zz, zz = gP := ⟨_, rfl⟩
              rw [← hg53] at hI hFP hGP hS
              have hE : mE k adP (bs + u) (mA ad N s.heap.size) s := hE
              have hI : mI k adP (bs + u) g53 (mA ad N s.heap.size) s H locs := hI
              have hS : SR k adP bs (bs + u) g53 uns play rd n lat gar T (came + 1, mis + 1, lost, bel + 1, fig, u, va_up ln (u - 1) (ln (u - 1) + 1), va_up pg (u - 1) (va_up (pg (u - 1)) (ln (u - 1)) (chF t9 fig))) := hS
              have hF : FRA ad g bs adP g53 := FRA.go hF hFP
              have hG0 : ∀ i, i < 50 → g53 i = g i := fun i hi => (hGP i hi).trans (hG0 i hi)
              have haS : adP 50 = aS := (hFP.1 50 (by omega)).trans haS
              have hl : lv_has ls 6 [(4, .int (nI (u - 1))), (3, .int (nI (chF t9 fig))), (2, .int (nI t9)), (0, .ref aS), (1, .int (nI co))] := lv_sub hl [0, 1, 2, 3, 4] rfl
              refine lv_aload_n hx hb dX4_come_230 rfl (lv_at hl 3 rfl) ?_
              refine lv_aload_n hx hb dX4_come_231 rfl (lv_at hl 3 rfl) ?_
              refine lv_aload_n hx hb dX4_come_232 rfl (lv_at hl 3 rfl) ?_
              refine m_stk (show ([.ref aS, .ref aS, .ref aS] : List Value) = [.ref (adP 50), .ref aS, .ref aS] from by rw [haS]) ?_
              refine m_get (ci := 4) (C := RX4) (T := TX4) (N' := 14) hx hb hts (by decide +kernel) hown hE hI 50 (by omega) (show g53 50 = .inr (4, [.ref (adP 51), .ref (adP 52), .ref (adP 53), .int (bI fig), .int (bI uns), .int (nI play), .ref (adP 54), .ref (adP 55), .ref (adP 56), .int (nI rd), .int (nI (came + 1)), .int (mis + 1), .int lost, .int (bel + 1)]) from hS.2.1) rfl 3 (by decide) (hts (.fieldLink RX4 57 "TapePrinterLaw$Sim" "isFigures" "Z") (by decide +kernel)) rfl dX4_come_233 ?_
              refine lv_iload_n hx hb dX4_come_236 rfl (lv_at hl 2 rfl) ?_
              refine m_stk (show ([.int (nI t9), .int (bI fig), .ref aS, .ref aS] : List Value) = [.int (nI t9), .int (bI fig), .ref (adP 50), .ref aS] from by rw [haS]) ?_
              refine m_callVi (As := [.int (bI fig), .int (nI t9)]) (rest := [.ref aS]) ⟨hx, hb, hml, hown, hts⟩ hE hI (c_X4_after k l adP (bs + u) g53 _ uns play rd n lat gar T (came + 1) (mis + 1) lost (bel + 1) fig u (va_up ln (u - 1) (ln (u - 1) + 1)) (va_up pg (u - 1) (va_up (pg (u - 1)) (ln (u - 1)) (chF t9 fig))) bs fig t9 (by omega) hS) (cwV 2 hts gX4_come_X4_after rfl rfl rfl (by decide +kernel) ⟨Nat.le_of_ble_eq_true rfl, Nat.le_of_ble_eq_true rfl⟩) (i := 50) (by omega) (show g53 50 = .inr (4, [.ref (adP 51), .ref (adP 52), .ref (adP 53), .int (bI fig), .int (bI uns), .int (nI play), .ref (adP 54), .ref (adP 55), .ref (adP 56), .int (nI rd), .int (nI (came + 1)), .int (mis + 1), .int lost, .int (bel + 1)]) from hS.2.1) rfl rfl hl.1 rfl (Nat.le_of_ble_eq_true rfl) dX4_come_237 ⟨(by show _ ≤ 4; omega), (by show _ ≤ 70; omega)⟩ (m_deti (fun H locs hI => ?_))
              refine m_stk (show ([.int (bI (fb uns t9 fig)), .ref aS] : List Value) = [.int (bI (fb uns t9 fig)), .ref (adP 50)] from by rw [haS]) ?_
              refine m_put (ci := 4) (C := RX4) (T := TX4) (N' := 14) (ty := .boolean) hx hb hts (by decide +kernel) tyX4 tyX4_ok nmX4 hown hE hI 50 (by omega) (show g53 50 = .inr (4, [.ref (adP 51), .ref (adP 52), .ref (adP 53), .int (bI fig), .int (bI uns), .int (nI play), .ref (adP 54), .ref (adP 55), .ref (adP 56), .int (nI rd), .int (nI (came + 1)), .int (mis + 1), .int lost, .int (bel + 1)]) from hS.2.1) rfl 3 (by decide) (hts (.fieldLink RX4 57 "TapePrinterLaw$Sim" "isFigures" "Z") (by decide +kernel)) rfl (by decide +kernel) (bI_nar _) (bI_fit _) (Nat.le_of_ble_eq_true rfl) dX4_come_240 (fun H locs hI => ?_)
              obtain ⟨g54, hg54⟩ : ∃ zz, zz = va_up g53 50 (.inr (4, [.ref (adP 51), .ref (adP 52), .ref (adP 53), .int (bI (fb uns t9 fig)), .int (bI uns), .int (nI play), .ref (adP 54), .ref (adP 55), .ref (adP 56), .int (nI rd), .int (nI (came + 1)), .int (mis + 1), .int lost, .int (bel + 1)])) := ⟨_, rfl⟩
              replace hI : mI k adP (bs + u) g54 (mA ad N s.heap.size) s H locs := by rw [hg54]; exact hI
              have hS : SR k adP bs (bs + u) g54 uns play rd n lat gar T (came + 1, mis + 1, lost, bel + 1, fb uns t9 fig, u, va_up ln (u - 1) (ln (u - 1) + 1), va_up pg (u - 1) (va_up (pg (u - 1)) (ln (u - 1)) (chF t9 fig))) := by rw [hg54]; exact SR.obj hS
              have hF : FRA ad g bs adP g54 := by rw [hg54]; exact FRA.up hF (by omega)
              have hG0 : ∀ i, i < 50 → g54 i = g i := fun i hi => by rw [hg54]; exact (va_up_ne _ _ (by omega)).trans (hG0 i hi)
              refine lv_iload_n hx hb dX4_come_243 rfl (lv_at hl 2 rfl) ?_
              have hfu : sFull (u, ln, pg) = false := decide_eq_false c_196
              have hl9 : lOb sFull (chF t9 fig) (u, ln, pg) lost = lost := by unfold lOb; rw [if_neg h54, if_neg (by omega), hfu] <;> rfl
              have hp9 : pOb sNl sFull sAdd (chF t9 fig) (u, ln, pg) = (u, va_up ln (u - 1) (ln (u - 1) + 1), va_up pg (u - 1) (va_up (pg (u - 1)) (ln (u - 1)) (chF t9 fig))) := by unfold pOb; rw [if_neg h54, if_neg (by omega), hfu] <;> rfl
              have hy : yIn sNl sFull sAdd uns play lat gar co (came, mis, lost, bel, fig, u, ln, pg) = (came + 1, mis + 1, lost, bel + 1, fb uns t9 fig, (u, va_up ln (u - 1) (ln (u - 1) + 1), va_up pg (u - 1) (va_up (pg (u - 1)) (ln (u - 1)) (chF t9 fig)))) := by
                show (came + 1, (if rdY play lat gar came co = co then mis else mis + 1), lOb sFull (chF (rdY play lat gar came co) fig) (u, ln, pg) lost, (if rdY play lat gar came co = 8 then bel + 1 else bel), fb uns (rdY play lat gar came co) fig, pOb sNl sFull sAdd (chF (rdY play lat gar came co) fig) (u, ln, pg)) = _
                rw [← ht9, if_neg c_22, if_pos c_38, hl9, hp9]
              exact m_giret hx hb hr hlocks hE hI (post := fun (r : Int32) (ad1 : Nat → Nat) (N1 : Nat) (g1 : Nat → va_E) => r = nI (rdY play lat gar came co) ∧ FRA ad g bs ad1 g1 ∧ (∀ i, i < 50 → g1 i = g i) ∧ SR k ad1 bs N1 g1 uns play rd n lat gar T (yIn sNl sFull sAdd uns play lat gar co (came, mis, lost, bel, fig, u, ln, pg))) (v := nI t9) (⟨by rw [ht9], hF, hG0, by rw [hy]; exact hS⟩) (by omega) (by omega) dX4_come_244
            · refine lv_aload_n hx hb dX4_come_199 rfl (lv_at hl 3 rfl) ?_
              refine lv_dup hx hb dX4_come_200 rfl ?_
              refine m_stk (show ([.ref aS, .ref aS] : List Value) = [.ref (ad 50), .ref aS] from by rw [haS]) ?_
              refine m_get (ci := 4) (C := RX4) (T := TX4) (N' := 14) hx hb hts (by decide +kernel) hown hE hI 50 (by omega) (show g50 50 = .inr (4, [.ref (ad 51), .ref (ad 52), .ref (ad 53), .int (bI fig), .int (bI uns), .int (nI play), .ref (ad 54), .ref (ad 55), .ref (ad 56), .int (nI rd), .int (nI (came + 1)), .int (mis + 1), .int lost, .int (bel + 1)]) from hS.2.1) rfl 12 (by decide) (hts (.fieldLink RX4 60 "TapePrinterLaw$Sim" "lost" "I") (by decide +kernel)) rfl dX4_come_201 ?_
              refine lv_iconst (v := nI 1) hx hb dX4_come_204 (by decide) ?_
              refine lv_iadd hx hb dX4_come_205 ?_
              refine m_top (show lost + (nI 1) = lost + 1 from rfl) ?_
              refine m_stk (show ([.int (lost + 1), .ref aS] : List Value) = [.int (lost + 1), .ref (ad 50)] from by rw [haS]) ?_
              refine m_put (ci := 4) (C := RX4) (T := TX4) (N' := 14) (ty := .int) hx hb hts (by decide +kernel) tyX4 tyX4_ok nmX4 hown hE hI 50 (by omega) (show g50 50 = .inr (4, [.ref (ad 51), .ref (ad 52), .ref (ad 53), .int (bI fig), .int (bI uns), .int (nI play), .ref (ad 54), .ref (ad 55), .ref (ad 56), .int (nI rd), .int (nI (came + 1)), .int (mis + 1), .int lost, .int (bel + 1)]) from hS.2.1) rfl 12 (by decide) (hts (.fieldLink RX4 60 "TapePrinterLaw$Sim" "lost" "I") (by decide +kernel)) rfl (by decide +kernel) rfl rfl (Nat.le_of_ble_eq_true rfl) dX4_come_206 (fun H locs hI => ?_)
              obtain ⟨g55, hg55⟩ : ∃ zz, zz = va_up g50 50 (.inr (4, [.ref (ad 51), .ref (ad 52), .ref (ad 53), .int (bI fig), .int (bI uns), .int (nI play), .ref (ad 54), .ref (ad 55), .ref (ad 56), .int (nI rd), .int (nI (came + 1)), .int (mis + 1), .int (lost + 1), .int (bel + 1)])) := ⟨_, rfl⟩
              replace hI : mI k ad N g55 (mA ad N s.heap.size) s H locs := by rw [hg55]; exact hI
              have hS : SR k ad bs N g55 uns play rd n lat gar T (came + 1, mis + 1, lost + 1, bel + 1, fig, u, ln, pg) := by rw [hg55]; exact SR.obj hS
              have hF : FRA ad g bs ad g55 := by rw [hg55]; exact FRA.up hF (by omega)
              have hG0 : ∀ i, i < 50 → g55 i = g i := fun i hi => by rw [hg55]; exact (va_up_ne _ _ (by omega)).trans (hG0 i hi)
              refine lv_goto (tgt := 230) hx hb dX4_come_209 (by decide) ?_
              refine lv_aload_n hx hb dX4_come_230 rfl (lv_at hl 3 rfl) ?_
              refine lv_aload_n hx hb dX4_come_231 rfl (lv_at hl 3 rfl) ?_
              refine lv_aload_n hx hb dX4_come_232 rfl (lv_at hl 3 rfl) ?_
              refine m_stk (show ([.ref aS, .ref aS, .ref aS] : List Value) = [.ref (ad 50), .ref aS, .ref aS] from by rw [haS]) ?_
              refine m_get (ci := 4) (C := RX4) (T := TX4) (N' := 14) hx hb hts (by decide +kernel) hown hE hI 50 (by omega) (show g55 50 = .inr (4, [.ref (ad 51), .ref (ad 52), .ref (ad 53), .int (bI fig), .int (bI uns), .int (nI play), .ref (ad 54), .ref (ad 55), .ref (ad 56), .int (nI rd), .int (nI (came + 1)), .int (mis + 1), .int (lost + 1), .int (bel + 1)]) from hS.2.1) rfl 3 (by decide) (hts (.fieldLink RX4 57 "TapePrinterLaw$Sim" "isFigures" "Z") (by decide +kernel)) rfl dX4_come_233 ?_
              refine lv_iload_n hx hb dX4_come_236 rfl (lv_at hl 2 rfl) ?_
              refine m_stk (show ([.int (nI t9), .int (bI fig), .ref aS, .ref aS] : List Value) = [.int (nI t9), .int (bI fig), .ref (ad 50), .ref aS] from by rw [haS]) ?_
              refine m_callVi (As := [.int (bI fig), .int (nI t9)]) (rest := [.ref aS]) ⟨hx, hb, hml, hown, hts⟩ hE hI (c_X4_after k l ad N g55 _ uns play rd n lat gar T (came + 1) (mis + 1) (lost + 1) (bel + 1) fig u ln pg bs fig t9 (by omega) hS) (cwV 2 hts gX4_come_X4_after rfl rfl rfl (by decide +kernel) ⟨Nat.le_of_ble_eq_true rfl, Nat.le_of_ble_eq_true rfl⟩) (i := 50) (by omega) (show g55 50 = .inr (4, [.ref (ad 51), .ref (ad 52), .ref (ad 53), .int (bI fig), .int (bI uns), .int (nI play), .ref (ad 54), .ref (ad 55), .ref (ad 56), .int (nI rd), .int (nI (came + 1)), .int (mis + 1), .int (lost + 1), .int (bel + 1)]) from hS.2.1) rfl rfl hl.1 rfl (Nat.le_of_ble_eq_true rfl) dX4_come_237 ⟨(by show _ ≤ 4; omega), (by show _ ≤ 70; omega)⟩ (m_deti (fun H locs hI => ?_))
              refine m_stk (show ([.int (bI (fb uns t9 fig)), .ref aS] : List Value) = [.int (bI (fb uns t9 fig)), .ref (ad 50)] from by rw [haS]) ?_
              refine m_put (ci := 4) (C := RX4) (T := TX4) (N' := 14) (ty := .boolean) hx hb hts (by decide +kernel) tyX4 tyX4_ok nmX4 hown hE hI 50 (by omega) (show g55 50 = .inr (4, [.ref (ad 51), .ref (ad 52), .ref (ad 53), .int (bI fig), .int (bI uns), .int (nI play), .ref (ad 54), .ref (ad 55), .ref (ad 56), .int (nI rd), .int (nI (came + 1)), .int (mis + 1), .int (lost + 1), .int (bel + 1)]) from hS.2.1) rfl 3 (by decide) (hts (.fieldLink RX4 57 "TapePrinterLaw$Sim" "isFigures" "Z") (by decide +kernel)) rfl (by decide +kernel) (bI_nar _) (bI_fit _) (Nat.le_of_ble_eq_true rfl) dX4_come_240 (fun H locs hI => ?_)
              obtain ⟨g56, hg56⟩ : ∃ zz, zz = va_up g55 50 (.inr (4, [.ref (ad 51), .ref (ad 52), .ref (ad 53), .int (bI (fb uns t9 fig)), .int (bI uns), .int (nI play), .ref (ad 54), .ref (ad 55), .ref (ad 56), .int (nI rd), .int (nI (came + 1)), .int (mis + 1), .int (lost + 1), .int (bel + 1)])) := ⟨_, rfl⟩
              replace hI : mI k ad N g56 (mA ad N s.heap.size) s H locs := by rw [hg56]; exact hI
              have hS : SR k ad bs N g56 uns play rd n lat gar T (came + 1, mis + 1, lost + 1, bel + 1, fb uns t9 fig, u, ln, pg) := by rw [hg56]; exact SR.obj hS
              have hF : FRA ad g bs ad g56 := by rw [hg56]; exact FRA.up hF (by omega)
              have hG0 : ∀ i, i < 50 → g56 i = g i := fun i hi => by rw [hg56]; exact (va_up_ne _ _ (by omega)).trans (hG0 i hi)
              refine lv_iload_n hx hb dX4_come_243 rfl (lv_at hl 2 rfl) ?_
              have hfu : sFull (u, ln, pg) = true := decide_eq_true c_196
              have hl9 : lOb sFull (chF t9 fig) (u, ln, pg) lost = lost + 1 := by unfold lOb; rw [if_neg h54, if_neg (by omega), hfu] <;> rfl
              have hp9 : pOb sNl sFull sAdd (chF t9 fig) (u, ln, pg) = (u, ln, pg) := by unfold pOb; rw [if_neg h54, if_neg (by omega), hfu] <;> rfl
              have hy : yIn sNl sFull sAdd uns play lat gar co (came, mis, lost, bel, fig, u, ln, pg) = (came + 1, mis + 1, lost + 1, bel + 1, fb uns t9 fig, (u, ln, pg)) := by
                show (came + 1, (if rdY play lat gar came co = co then mis else mis + 1), lOb sFull (chF (rdY play lat gar came co) fig) (u, ln, pg) lost, (if rdY play lat gar came co = 8 then bel + 1 else bel), fb uns (rdY play lat gar came co) fig, pOb sNl sFull sAdd (chF (rdY play lat gar came co) fig) (u, ln, pg)) = _
                rw [← ht9, if_neg c_22, if_pos c_38, hl9, hp9]
              exact m_giret hx hb hr hlocks hE hI (post := fun (r : Int32) (ad1 : Nat → Nat) (N1 : Nat) (g1 : Nat → va_E) => r = nI (rdY play lat gar came co) ∧ FRA ad g bs ad1 g1 ∧ (∀ i, i < 50 → g1 i = g i) ∧ SR k ad1 bs N1 g1 uns play rd n lat gar T (yIn sNl sFull sAdd uns play lat gar co (came, mis, lost, bel, fig, u, ln, pg))) (v := nI t9) (⟨by rw [ht9], hF, hG0, by rw [hy]; exact hS⟩) (by omega) (by omega) dX4_come_244
      · exact (show False by omega).elim
