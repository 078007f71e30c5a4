/-! Sim: its page, its cells. -/
theorem CR.kept {k : mC} {ad : Nat → Nat} {g g1 : Nat → va_E} {uns : Bool} {play rd n : Nat} {lat : Nat → Int32} {gar T : Nat → Nat} {y : YT PC} {r : Nat → Option Nat} (h : CR k ad g uns play rd n lat gar T y r) (hk : ∀ i, i < 50 → g1 i = g i) : CR k ad g1 uns play rd n lat gar T y r :=
  ⟨(hk 0 (by omega)).trans h.1, h.2.1.kept (fun i _ h2 => hk i (by omega)), h.2.2.1.kept (fun i _ h2 => hk i (by omega)), h.2.2.2.kept (hk 48 (by omega)) (hk 49 (by omega))⟩
theorem CR.moved {k : mC} {ad ad1 : Nat → Nat} {g g1 : Nat → va_E} {uns : Bool} {play rd n : Nat} {lat : Nat → Int32} {gar T : Nat → Nat} {y : YT PC} {r : Nat → Option Nat} (h : CR k ad g uns play rd n lat gar T y r) (ha : ∀ i, i < 50 → ad1 i = ad i) (hk : ∀ i, i < 50 → g1 i = g i) : CR k ad1 g1 uns play rd n lat gar T y r := by
  obtain ⟨h0, ⟨v1, ⟨v2, v3⟩, ⟨v4, v5⟩⟩, ⟨u1, u2, u3, u4⟩, ⟨t1, t2⟩⟩ := h
  refine ⟨by rw [hk 0 (by omega), h0, ha 1 (by omega), ha 6 (by omega), ha 48 (by omega)], ⟨by rw [hk 1 (by omega), v1, ha 2 (by omega), ha 4 (by omega)], ⟨by rw [hk 2 (by omega), v2, ha (2 + 1) (by omega)], by rw [hk (2 + 1) (by omega), v3]⟩, ⟨by rw [hk 4 (by omega), v4, ha (4 + 1) (by omega)], by rw [hk (4 + 1) (by omega), v5]⟩⟩, ⟨by rw [hk 6 (by omega), u1, ha 7 (by omega)], by rw [hk 7 (by omega), u2], fun j hj => by rw [u3 j hj, ha (8 + 2 * j) (by omega)], fun j hj => ⟨⟨by rw [hk (8 + 2 * j) (by omega), (u4 j hj).1.1, ha (8 + 2 * j + 1) (by omega)], by rw [hk (8 + 2 * j + 1) (by omega), (u4 j hj).1.2]⟩, (u4 j hj).2⟩⟩, ⟨by rw [hk 48 (by omega), t1, ha (48 + 1) (by omega)], by rw [hk (48 + 1) (by omega), t2]⟩⟩
/-- Sim's page: its lines, their lengths, their characters -/
abbrev PS : Type := Nat × (Nat → Nat) × (Nat → Nat → Nat)
def sNl (p : PS) : PS := if p.1 = 20 then (20, va_up (fun l => p.2.1 (l + 1)) 19 0, fun l => p.2.2 (l + 1)) else (p.1 + 1, va_up p.2.1 p.1 0, p.2.2)
def sFull (p : PS) : Bool := decide (p.2.1 (p.1 - 1) = 40)
def sAdd (p : PS) (ch : Nat) : PS := (p.1, va_up p.2.1 (p.1 - 1) (p.2.1 (p.1 - 1) + 1), va_up p.2.2 (p.1 - 1) (va_up (p.2.2 (p.1 - 1)) (p.2.1 (p.1 - 1)) ch))
def sWf (p : PS) : Prop := 0 < p.1 ∧ p.1 ≤ 20 ∧ ∀ l, l < p.1 → p.2.1 l ≤ 40
theorem sWf_nl {p : PS} (h : sWf p) : sWf (sNl p) := by
  obtain ⟨u, ln, pg⟩ := p
  obtain ⟨h1, h2, h3⟩ := h
  have h1 : 0 < u := h1
  have h2 : u ≤ 20 := h2
  have h3 : ∀ l, l < u → ln l ≤ 40 := h3
  by_cases hu : u = 20
  · have e1 : sNl (u, ln, pg) = (20, va_up (fun l => ln (l + 1)) 19 0, fun l => pg (l + 1)) := by unfold sNl; exact if_pos hu
    rw [e1]
    refine ⟨by show 0 < 20; omega, by show 20 ≤ 20; omega, fun l hl => ?_⟩
    have hl : l < 20 := hl
    show va_up (fun l => ln (l + 1)) 19 0 l ≤ 40
    by_cases h9 : l = 19
    · rw [h9, va_up_self]; omega
    · rw [va_up_ne _ _ h9]; exact h3 _ (by omega)
  · have e1 : sNl (u, ln, pg) = (u + 1, va_up ln u 0, pg) := by unfold sNl; exact if_neg hu
    rw [e1]
    refine ⟨by show 0 < u + 1; omega, by show u + 1 ≤ 20; omega, fun l hl => ?_⟩
    have hl : l < u + 1 := hl
    show va_up ln u 0 l ≤ 40
    by_cases h9 : l = u
    · rw [h9, va_up_self]; omega
    · rw [va_up_ne _ _ h9]; exact h3 _ (by omega)
theorem sWf_ob {p : PS} {ch : Nat} (h : sWf p) : sWf (pOb sNl sFull sAdd ch p) := by
  unfold pOb
  split
  · exact sWf_nl h
  · split
    · exact h
    · split
      · exact h
      · rename_i h1 h2 h3
        obtain ⟨u, ln, pg⟩ := p
        obtain ⟨g1, g2, g3⟩ := h
        have g1 : 0 < u := g1
        have g3 : ∀ l, l < u → ln l ≤ 40 := g3
        refine ⟨g1, g2, fun l hl => ?_⟩
        have hl : l < u := hl
        show va_up ln (u - 1) (ln (u - 1) + 1) l ≤ 40
        by_cases h9 : l = u - 1
        · rw [h9, va_up_self]
          have h8 := g3 (u - 1) (by omega)
          have h7 : ¬ ln (u - 1) = 40 := fun q => h3 (decide_eq_true q)
          omega
        · rw [va_up_ne _ _ h9]; exact g3 _ hl
theorem sWf_in {uns : Bool} {play : Nat} {lat : Nat → Int32} {gar : Nat → Nat} {co : Nat} {y : YT PS} (h : sWf y.2.2.2.2.2) : sWf (yIn sNl sFull sAdd uns play lat gar co y).2.2.2.2.2 := sWf_ob h
/-- the refs of the page -/
def pgF (ad : Nat → Nat) (bs u : Nat) : Nat → Option Nat := fun j => if j < u then some (ad (bs + j)) else none
theorem pgF_in {ad : Nat → Nat} {bs u j : Nat} (h : j < u) : pgF ad bs u j = some (ad (bs + j)) := if_pos h
theorem pgF_grow {ad ad1 : Nat → Nat} {bs u : Nat} (ha : ∀ i, bs ≤ i → i < bs + u → ad1 i = ad i) : pgF ad1 bs u = pgF ad bs u := by
  funext j
  unfold pgF
  split
  · rw [ha _ (by omega) (by omega)]
  · rfl
abbrev SR (k : mC) (ad : Nat → Nat) (bs N : Nat) (g : Nat → va_E) (uns : Bool) (play rd n : Nat) (lat : Nat → Int32) (gar T : Nat → Nat) (y : YT PS) : Prop :=
  (57 ≤ bs ∧ bs + y.2.2.2.2.2.1 ≤ N) ∧ g 50 = .inr (4, [.ref (ad 51), .ref (ad 52), .ref (ad 53), .int (bI y.2.2.2.2.1), .int (bI uns), .int (nI play), .ref (ad 54), .ref (ad 55), .ref (ad 56), .int (nI rd), .int (nI y.1), .int y.2.1, .int y.2.2.1, .int y.2.2.2.1]) ∧
  g 51 = .inl (k.2.1.1, 32, .inl (fun j => nI (chF j false))) ∧ g 52 = .inl (k.2.1.1, 32, .inl (fun j => nI (chF j true))) ∧ g 53 = .inl (k.2.1.2.2.2, y.2.2.2.2.2.1, .inr (.inr (.inr (.inr (pgF ad bs y.2.2.2.2.2.1))))) ∧ g 54 = .inl (k.2.1.1, 16, .inl lat) ∧ g 55 = .inl (k.2.1.1, 16, .inl (fun j => nI (gar j))) ∧ g 56 = .inl (k.2.1.1, n, .inl (fun j => nI (T j))) ∧ ∀ l, l < y.2.2.2.2.2.1 → g (bs + l) = .inl (k.2.1.1, y.2.2.2.2.2.2.1 l, .inl (fun i => nI (y.2.2.2.2.2.2.2 l i)))
section SRL
variable {k : mC} {ad ad1 : Nat → Nat} {bs N N1 : Nat} {g g1 : Nat → va_E} {uns : Bool} {play rd n : Nat} {lat : Nat → Int32} {gar T : Nat → Nat} {came : Nat} {mis lost bel : Int32} {fig : Bool} {u : Nat} {ln : Nat → Nat} {pg : Nat → Nat → Nat}
/-- the addresses and the cells that matter -/
theorem SR.go (h : SR k ad bs N g uns play rd n lat gar T (came, mis, lost, bel, fig, u, ln, pg)) (hN : bs + u ≤ N1) (ha : ∀ i, 50 < i → i < 57 → ad1 i = ad i) (hb : ∀ i, bs ≤ i → i < bs + u → ad1 i = ad i) (hg : ∀ i, 50 ≤ i → i < 57 → g1 i = g i) (hh : ∀ i, bs ≤ i → i < bs + u → g1 i = g i) : SR k ad1 bs N1 g1 uns play rd n lat gar T (came, mis, lost, bel, fig, u, ln, pg) := by
  obtain ⟨⟨h9, h0⟩, h1, h2, h3, h4, h5, h6, h7, h8⟩ := h
  refine ⟨⟨h9, hN⟩, ?_, by rw [hg _ (by omega) (by omega), h2], by rw [hg _ (by omega) (by omega), h3], ?_, by rw [hg _ (by omega) (by omega), h5], by rw [hg _ (by omega) (by omega), h6], by rw [hg _ (by omega) (by omega), h7], fun l hl => ?_⟩
  · rw [hg _ (by omega) (by omega), h1, ha 51 (by omega) (by omega), ha 52 (by omega) (by omega), ha 53 (by omega) (by omega), ha 54 (by omega) (by omega), ha 55 (by omega) (by omega), ha 56 (by omega) (by omega)]
  · rw [hg _ (by omega) (by omega), h4]
    show (Sum.inl (k.2.1.2.2.2, u, .inr (.inr (.inr (.inr (pgF ad bs u))))) : va_E) = .inl (k.2.1.2.2.2, u, .inr (.inr (.inr (.inr (pgF ad1 bs u)))))
    rw [pgF_grow hb]
  · have hl : l < u := hl
    rw [hh _ (by omega) (by omega), h8 l hl]
theorem SR.kept (h : SR k ad bs N g uns play rd n lat gar T (came, mis, lost, bel, fig, u, ln, pg)) (ho : ∀ i, 50 ≤ i → g1 i = g i) : SR k ad bs N g1 uns play rd n lat gar T (came, mis, lost, bel, fig, u, ln, pg) :=
  SR.go h h.1.2 (fun _ _ _ => rfl) (fun _ _ _ => rfl) (fun i hi _ => ho i hi) (fun i hi _ => ho i (by have := h.1.1; omega))
theorem SR.off (h : SR k ad bs N g uns play rd n lat gar T (came, mis, lost, bel, fig, u, ln, pg)) {i : Nat} {e9 : va_E} (hi : bs + u ≤ i) : SR k ad bs N (va_up g i e9) uns play rd n lat gar T (came, mis, lost, bel, fig, u, ln, pg) :=
  SR.go h h.1.2 (fun _ _ _ => rfl) (fun _ _ _ => rfl) (fun j _ h2 => va_up_ne _ _ (by have := h.1.1; omega)) (fun j _ h2 => va_up_ne _ _ (by omega))
/-- what lies between -/
theorem SR.offx (h : SR k ad bs N g uns play rd n lat gar T (came, mis, lost, bel, fig, u, ln, pg)) {i : Nat} {e9 : va_E} (hi : 57 ≤ i) (hi2 : i < bs) : SR k ad bs N (va_up g i e9) uns play rd n lat gar T (came, mis, lost, bel, fig, u, ln, pg) :=
  SR.go h h.1.2 (fun _ _ _ => rfl) (fun _ _ _ => rfl) (fun j _ h2 => va_up_ne _ _ (by omega)) (fun j _ h2 => va_up_ne _ _ (by omega))
theorem SR.mid (h : SR k ad bs N g uns play rd n lat gar T (came, mis, lost, bel, fig, u, ln, pg)) (ho : ∀ i, i < bs + u → g1 i = g i) : SR k ad bs N g1 uns play rd n lat gar T (came, mis, lost, bel, fig, u, ln, pg) :=
  SR.go h h.1.2 (fun _ _ _ => rfl) (fun _ _ _ => rfl) (fun j _ h2 => ho _ (by have := h.1.1; omega)) (fun j _ h2 => ho _ h2)
theorem SR.grow (h : SR k ad bs N g uns play rd n lat gar T (came, mis, lost, bel, fig, u, ln, pg)) (hN : N ≤ N1) (ha : ∀ i, i < N → ad1 i = ad i) (hg : ∀ i, i < N → g1 i = g i) : SR k ad1 bs N1 g1 uns play rd n lat gar T (came, mis, lost, bel, fig, u, ln, pg) := by
  have h9 := h.1.1
  have h0 : bs + u ≤ N := h.1.2
  exact SR.go h (by omega) (fun i _ _ => ha i (by omega)) (fun i _ _ => ha i (by omega)) (fun i _ _ => hg i (by omega)) (fun i _ _ => hg i (by omega))
theorem SR.obj (h : SR k ad bs N g uns play rd n lat gar T (came, mis, lost, bel, fig, u, ln, pg)) {uns1 fig1 : Bool} {play1 rd1 came1 : Nat} {mis1 lost1 bel1 : Int32} : SR k ad bs N (va_up g 50 (.inr (4, [.ref (ad 51), .ref (ad 52), .ref (ad 53), .int (bI fig1), .int (bI uns1), .int (nI play1), .ref (ad 54), .ref (ad 55), .ref (ad 56), .int (nI rd1), .int (nI came1), .int mis1, .int lost1, .int bel1]))) uns1 play1 rd1 n lat gar T (came1, mis1, lost1, bel1, fig1, u, ln, pg) :=
  ⟨h.1, va_up_self _ _ _, (va_up_ne _ _ (by omega)).trans h.2.2.1, (va_up_ne _ _ (by omega)).trans h.2.2.2.1, (va_up_ne _ _ (by omega)).trans h.2.2.2.2.1, (va_up_ne _ _ (by omega)).trans h.2.2.2.2.2.1, (va_up_ne _ _ (by omega)).trans h.2.2.2.2.2.2.1, (va_up_ne _ _ (by omega)).trans h.2.2.2.2.2.2.2.1, fun l hl => (va_up_ne _ _ (by have := h.1.1; omega)).trans (h.2.2.2.2.2.2.2.2 l hl)⟩
theorem SR.slat (h : SR k ad bs N g uns play rd n lat gar T (came, mis, lost, bel, fig, u, ln, pg)) {lat1 : Nat → Int32} : SR k ad bs N (va_up g 54 (.inl (k.2.1.1, 16, .inl lat1))) uns play rd n lat1 gar T (came, mis, lost, bel, fig, u, ln, pg) :=
  ⟨h.1, (va_up_ne _ _ (by omega)).trans h.2.1, (va_up_ne _ _ (by omega)).trans h.2.2.1, (va_up_ne _ _ (by omega)).trans h.2.2.2.1, (va_up_ne _ _ (by omega)).trans h.2.2.2.2.1, va_up_self _ _ _, (va_up_ne _ _ (by omega)).trans h.2.2.2.2.2.2.1, (va_up_ne _ _ (by omega)).trans h.2.2.2.2.2.2.2.1, fun l hl => (va_up_ne _ _ (by have := h.1.1; omega)).trans (h.2.2.2.2.2.2.2.2 l hl)⟩
theorem SR.sgar (h : SR k ad bs N g uns play rd n lat gar T (came, mis, lost, bel, fig, u, ln, pg)) {gar1 : Nat → Nat} : SR k ad bs N (va_up g 55 (.inl (k.2.1.1, 16, .inl (fun j => nI (gar1 j))))) uns play rd n lat gar1 T (came, mis, lost, bel, fig, u, ln, pg) :=
  ⟨h.1, (va_up_ne _ _ (by omega)).trans h.2.1, (va_up_ne _ _ (by omega)).trans h.2.2.1, (va_up_ne _ _ (by omega)).trans h.2.2.2.1, (va_up_ne _ _ (by omega)).trans h.2.2.2.2.1, (va_up_ne _ _ (by omega)).trans h.2.2.2.2.2.1, va_up_self _ _ _, (va_up_ne _ _ (by omega)).trans h.2.2.2.2.2.2.2.1, fun l hl => (va_up_ne _ _ (by have := h.1.1; omega)).trans (h.2.2.2.2.2.2.2.2 l hl)⟩
theorem SR.stap (h : SR k ad bs N g uns play rd n lat gar T (came, mis, lost, bel, fig, u, ln, pg)) {T1 : Nat → Nat} : SR k ad bs N (va_up g 56 (.inl (k.2.1.1, n, .inl (fun j => nI (T1 j))))) uns play rd n lat gar T1 (came, mis, lost, bel, fig, u, ln, pg) :=
  ⟨h.1, (va_up_ne _ _ (by omega)).trans h.2.1, (va_up_ne _ _ (by omega)).trans h.2.2.1, (va_up_ne _ _ (by omega)).trans h.2.2.2.1, (va_up_ne _ _ (by omega)).trans h.2.2.2.2.1, (va_up_ne _ _ (by omega)).trans h.2.2.2.2.2.1, (va_up_ne _ _ (by omega)).trans h.2.2.2.2.2.2.1, va_up_self _ _ _, fun l hl => (va_up_ne _ _ (by have := h.1.1; omega)).trans (h.2.2.2.2.2.2.2.2 l hl)⟩
end SRL
/-- one cell is made -/
def mMk (ad : Nat → Nat) (N : Nat) (g : Nat → va_E) (cell : va_E) (r : Option Nat) (ad1 : Nat → Nat) (N1 : Nat) (g1 : Nat → va_E) : Prop := r = some (ad1 N) ∧ N1 = N + 1 ∧ (∀ i, i < N → ad1 i = ad i) ∧ (∀ i, i < N → g1 i = g i) ∧ g1 N = cell
/-- a number below b -/
def blw (v : Int32) (b : Nat) : Nat := v.toBitVec.toNat % 2 ^ 31 % b
theorem blw_lt {v : Int32} {b : Nat} (h : 0 < b) : blw v b < b := Nat.mod_lt _ h
theorem and31 (v : Int32) : v &&& 2147483647 = nI (v.toBitVec.toNat % 2 ^ 31) := pk_and v 31 (by decide)
/-- a cell of the script, or what stands for it -/
def cel (xs : Nat → Int32) (L q : Nat) : Int32 := if q < L then xs q else 790386105 * nI (q + 3)
def isT (c : Nat) : Bool := decide (0 < c ∧ c ≠ 2 ∧ c ≠ 4 ∧ c ≠ 8 ∧ c ≠ 27 ∧ c < 31)
/-- the next number of a type, and the codes so far -/
def nx : Nat → Nat
  | 0 => 1
  | c + 1 => if isT c then nx c + 1 else nx c
def ct : Nat → Nat → Nat
  | 0 => fun _ => 0
  | c + 1 => if isT c then va_up (va_up (ct c) (nx c) c) (nx c + 26) c else ct c
theorem nx_le : ∀ c, c < 33 → nx c ≤ 27 := by decide +kernel
theorem nx_lt : ∀ c, c < 32 → isT c = true → nx c ≤ 26 := by decide +kernel
theorem ct_cd : ∀ j, j < 55 → va_up (va_up (ct 32) 53 4) 54 2 j = cd j := by decide +kernel
/-- the characters so far -/
def chB (b : Bool) : Nat → Nat → Nat
  | 0 => fun _ => 0
  | m + 1 => if 52 < m + 1 ∨ decide (26 < m + 1) = b then va_up (chB b m) (cd (m + 1)) (m + 1) else chB b m
theorem chB_chF : ∀ b : Bool, ∀ j, j < 32 → chB b 54 j = chF j b := by decide +kernel
theorem mor_up (h : Nat → Int32) (q : Nat) (z : Int32) : upd (fun j => if j < q then h j else z) q (h q) = fun j => if j < q + 1 then h j else z := by
  funext j
  unfold upd
  by_cases e1 : j = q
  · subst e1; rw [if_pos rfl, if_pos (by omega)]
  · rw [if_neg e1]
    show (if j < q then h j else z) = _
    by_cases e2 : j < q
    · rw [if_pos e2, if_pos (by omega)]
    · rw [if_neg e2, if_neg (by omega)]
/-- a unit of what is read before it is moved -/
def ub (c q j : Nat) : Bool := decide (c / 2 ^ j % 2 ≠ q / 2 ^ j % 2)
theorem unit5 : ∀ c, c < 32 → ∀ j, j < 5 → (nI c >>> (nI j &&& 31)) &&& nI 1 = nI (c / 2 ^ j % 2) := by decide +kernel
theorem one_sh : ∀ j, j < 5 → nI 1 <<< (nI j &&& 31) = nI (2 ^ j) := by decide +kernel
/-- a unit of what is read -/
def rI (play : Nat) (lt : Int32) (c q j : Nat) : Bool := if lt ≤ nI play then (if nI 0 - nI play ≤ lt then ub c q j else decide (j = 0) || ub c q (j - 1)) else decide (j < 4) && ub c q (j + 1)
def rA (play : Nat) (lt : Int32) (c q : Nat) : Nat → Nat
  | 0 => 0
  | j + 1 => rA play lt c q j + (if rI play lt c q j then 2 ^ j else 0)
theorem rA_lt (play : Nat) (lt : Int32) (c q j : Nat) : rA play lt c q j < 2 ^ j := by
  induction j with
  | zero => show 0 < 1; omega
  | succ j ih =>
    have e1 : 2 ^ (j + 1) = 2 * 2 ^ j := Nat.pow_succ'
    show rA play lt c q j + (if rI play lt c q j then 2 ^ j else 0) < 2 ^ (j + 1)
    split <;> omega
theorem rA_a : ∀ c, c < 32 → ∀ q, q < 32 → ((((0 + (if ub c q 0 then 2 ^ 0 else 0)) + (if ub c q 1 then 2 ^ 1 else 0)) + (if ub c q 2 then 2 ^ 2 else 0)) + (if ub c q 3 then 2 ^ 3 else 0)) + (if ub c q 4 then 2 ^ 4 else 0) = c ^^^ q := by decide +kernel
theorem rA_b : ∀ c, c < 32 → ∀ q, q < 32 → ((((0 + (if decide (0 = 0) || ub c q (0 - 1) then 2 ^ 0 else 0)) + (if decide (1 = 0) || ub c q (1 - 1) then 2 ^ 1 else 0)) + (if decide (2 = 0) || ub c q (2 - 1) then 2 ^ 2 else 0)) + (if decide (3 = 0) || ub c q (3 - 1) then 2 ^ 3 else 0)) + (if decide (4 = 0) || ub c q (4 - 1) then 2 ^ 4 else 0) = (2 * (c ^^^ q) + 1) % 32 := by decide +kernel
theorem rA_c : ∀ c, c < 32 → ∀ q, q < 32 → ((((0 + (if decide (0 < 4) && ub c q (0 + 1) then 2 ^ 0 else 0)) + (if decide (1 < 4) && ub c q (1 + 1) then 2 ^ 1 else 0)) + (if decide (2 < 4) && ub c q (2 + 1) then 2 ^ 2 else 0)) + (if decide (3 < 4) && ub c q (3 + 1) then 2 ^ 3 else 0)) + (if decide (4 < 4) && ub c q (4 + 1) then 2 ^ 4 else 0) = (c ^^^ q) / 2 := by decide +kernel
theorem early {play : Nat} {lt : Int32} (hp : play ≤ 9) (hl : -9 ≤ lt ∧ lt ≤ 9) : nI play < -lt ↔ ¬ nI 0 - nI play ≤ lt := by
  obtain ⟨h1, h2⟩ := hl
  rw [Int32.le_iff_toInt_le] at h1 h2
  have e1 : (-9 : Int32).toInt = -9 := by decide
  have e2 : (9 : Int32).toInt = 9 := by decide
  have e3 : (nI play).toInt = (play : Int) := nI_toInt (by omega)
  have e4 : (nI 0 - nI play).toInt = -(play : Int) := by rw [pk_sub_toInt (by omega) (by omega)]; omega
  have e5 : (-lt).toInt = -lt.toInt := by
    rw [Int32.toInt_neg]
    exact Int.bmod_eq_of_le (by omega) (by omega)
  rw [Int32.lt_iff_toInt_lt, Int32.le_iff_toInt_le, e3, e4, e5]
  omega
theorem rA_rdF {play : Nat} {lt : Int32} {c q : Nat} (hp : play ≤ 9) (hl : -9 ≤ lt ∧ lt ≤ 9) (hc : c < 32) (hq : q < 32) : rA play lt c q 5 = rdF play lt q c := by
  show ((((0 + (if rI play lt c q 0 then 2 ^ 0 else 0)) + (if rI play lt c q 1 then 2 ^ 1 else 0)) + (if rI play lt c q 2 then 2 ^ 2 else 0)) + (if rI play lt c q 3 then 2 ^ 3 else 0)) + (if rI play lt c q 4 then 2 ^ 4 else 0) = _
  have h3 := early hp hl
  unfold rdF rI
  by_cases h1 : lt ≤ nI play
  · rw [if_pos h1, if_pos h1, if_pos h1, if_pos h1, if_pos h1]
    have h4 : ¬ nI play < lt := fun z => by rw [Int32.lt_iff_toInt_lt] at z; rw [Int32.le_iff_toInt_le] at h1; omega
    rw [if_neg h4]
    by_cases h2 : nI 0 - nI play ≤ lt
    · rw [if_pos h2, if_pos h2, if_pos h2, if_pos h2, if_pos h2, if_neg (fun z => h3.mp z h2)]
      exact rA_a c hc q hq
    · rw [if_neg h2, if_neg h2, if_neg h2, if_neg h2, if_neg h2, if_pos (h3.mpr h2)]
      exact rA_b c hc q hq
  · rw [if_neg h1, if_neg h1, if_neg h1, if_neg h1, if_neg h1]
    have h4 : nI play < lt := by rw [Int32.le_iff_toInt_le] at h1; rw [Int32.lt_iff_toInt_lt]; omega
    rw [if_pos h4]
    exact rA_c c hc q hq

set_option maxHeartbeats 8000000 in
set_option maxRecDepth 100000 in
theorem c_L_below (k : mC) (l : Launch) (ad : Nat → Nat) (N : Nat) (g : Nat → va_E) (sz : Nat) (p0 : Int32) (q : Nat) (hq0 : 0 < q) (hq9 : q < 2147483648) : mCi k l yL_below wsL_below { frames := 0, cells := 0, slots := 0, locals := 0 } ad N g sz [.int p0, .int (nI q)] (fun r g1 => r = nI (blw p0 q) ∧ g1 = g) := by
  show Met l yL_below wsL_below { frames := 0, cells := 0, slots := 0, locals := 0 } (mPc k ad N g sz [.int p0, .int (nI q)]) (va_Qi (fun r g1 => r = nI (blw p0 q) ∧ g1 = g) (mB k ad N) (mA ad N sz)) 0 0 (mA ad N sz)
  refine mOfG (Qc := fun z9 => va_Qi (fun r g1 => r = nI (blw p0 q) ∧ g1 = g) (mB k ad N) (mA ad N z9)) (cc := cL_below) (maxL := 2) (ret := (some .int)) (by decide) rfl (Nat.le_of_ble_eq_true rfl) ?_
  intro p e s m below meth c hx hb hr hts hown hlocks hml hin H locs hH hE hI ls hl
  have hl : lv_has ls 2 [(0, .int p0), (1, .int (nI q))] := hl
  refine lv_iload_n hx hb dL_below_0 rfl (lv_at hl 0 rfl) ?_
  refine lv_ldc (v := (2147483647)) hx hb hown (hts (.constant RL 7 (2147483647)) (by decide +kernel)) dL_below_1 ?_
  refine lv_iand hx hb dL_below_3 ?_
  refine m_top (show p0 &&& ((2147483647)) = nI (p0.toBitVec.toNat % 2 ^ 31) from and31 p0) ?_
  have hlt9 : p0.toBitVec.toNat % 2 ^ 31 < 2147483648 := Nat.mod_lt _ (by omega)
  refine lv_iload_n hx hb dL_below_4 rfl (lv_at hl 1 rfl) ?_
  refine m_iremN hx hb (by omega) (by omega) (by omega) dL_below_5 ?_
  exact m_iret hx hb hr hlocks hI (post := fun r g1 => r = nI (blw p0 q) ∧ g1 = g) (v := nI ((p0.toBitVec.toNat % 2 ^ 31) % q)) (⟨rfl, rfl⟩) dL_below_6
set_option maxHeartbeats 8000000 in
set_option maxRecDepth 100000 in
theorem c_L_cell (k : mC) (l : Launch) (ad : Nat → Nat) (N : Nat) (g : Nat → va_E) (sz : Nat) (b L : Nat) (xs : Nat → Int32) (q : Nat) (hL : L ≤ 2000) (hq : q ≤ 2000) : Met l yL_cell wsL_cell { frames := 0, cells := 0, slots := 0, locals := 0 } (mPs k ad N g sz b L xs [.ref b, .int (nI q)]) (va_Qi (fun r g1 => r = cel xs L q ∧ g1 = g) (mB k ad N) (mA ad N sz)) 0 0 (mA ad N sz) := by
  show Met l yL_cell wsL_cell { frames := 0, cells := 0, slots := 0, locals := 0 } (mPs k ad N g sz b L xs [.ref b, .int (nI q)]) (va_Qi (fun r g1 => r = cel xs L q ∧ g1 = g) (mB k ad N) (mA ad N sz)) 0 0 (mA ad N sz)
  refine mOfS (Qc := fun z9 => va_Qi (fun r g1 => r = cel xs L q ∧ g1 = g) (mB k ad N) (mA ad N z9)) (cc := cL_cell) (maxL := 2) (ret := (some .int)) (by decide) rfl (Nat.le_of_ble_eq_true rfl) ?_
  intro p e s m below meth c hx hb hr hts hown hlocks hml hX hbl hAb H locs hH hE hI ls hl
  have hl : lv_has ls 2 [(0, .ref b), (1, .int (nI q))] := hl
  refine lv_iload_n hx hb dL_cell_0 rfl (lv_at hl 1 rfl) ?_
  refine lv_aload_n hx hb dL_cell_1 rfl (lv_at hl 0 rfl) ?_
  refine va_slen hx hb hX hbl hAb hI.2 dL_cell_2 ?_
  refine m_top (show Int32.ofNat L = nI L from rfl) ?_
  refine m_cgeN (tgt := 12) hx hb (by omega) (by omega) dL_cell_3 (by decide) (fun c_3 => ?_) (fun c_3 => ?_)
  · refine lv_ldc (v := (790386105)) hx hb hown (hts (.constant RL 8 (790386105)) (by decide +kernel)) dL_cell_12 ?_
    refine lv_iload_n hx hb dL_cell_14 rfl (lv_at hl 1 rfl) ?_
    refine lv_iconst (v := nI 3) hx hb dL_cell_15 (by decide) ?_
    refine m_iaddN hx hb dL_cell_16 ?_
    refine lv_imul hx hb dL_cell_17 ?_
    exact m_iret hx hb hr hlocks hI (post := fun r g1 => r = cel xs L q ∧ g1 = g) (v := ((790386105)) * (nI (q + 3))) (⟨by rw [cel, if_neg (by omega)], rfl⟩) dL_cell_18
  · refine lv_aload_n hx hb dL_cell_6 rfl (lv_at hl 0 rfl) ?_
    refine lv_iload_n hx hb dL_cell_7 rfl (lv_at hl 1 rfl) ?_
    refine va_sld hx hb hX hbl hAb hI.2 (vp_in_nI (n := q) (by omega) (by omega)) dL_cell_8 ?_
    refine m_top (y := xs q) (by rw [nI_clamp (by omega)]) ?_
    refine lv_goto (tgt := 18) hx hb dL_cell_9 (by decide) ?_
    exact m_iret hx hb hr hlocks hI (post := fun r g1 => r = cel xs L q ∧ g1 = g) (v := xs q) (⟨by rw [cel, if_pos c_3], rfl⟩) dL_cell_18
set_option maxHeartbeats 8000000 in
set_option maxRecDepth 100000 in
theorem c_L_isType (k : mC) (l : Launch) (ad : Nat → Nat) (N : Nat) (g : Nat → va_E) (sz : Nat) (q : Nat) (hq : q < 2147483648) : mCi k l yL_isType wsL_isType { frames := 0, cells := 0, slots := 0, locals := 0 } ad N g sz [.int (nI q)] (fun r g1 => r = bI (isT q) ∧ g1 = g) := by
  show Met l yL_isType wsL_isType { frames := 0, cells := 0, slots := 0, locals := 0 } (mPc k ad N g sz [.int (nI q)]) (va_Qi (fun r g1 => r = bI (isT q) ∧ g1 = g) (mB k ad N) (mA ad N sz)) 0 0 (mA ad N sz)
  refine mOfG (Qc := fun z9 => va_Qi (fun r g1 => r = bI (isT q) ∧ g1 = g) (mB k ad N) (mA ad N z9)) (cc := cL_isType) (maxL := 1) (ret := (some .boolean)) (by decide) rfl (Nat.le_of_ble_eq_true rfl) ?_
  intro p e s m below meth c hx hb hr hts hown hlocks hml hin H locs hH hE hI ls hl
  have hl : lv_has ls 1 [(0, .int (nI q))] := hl
  refine lv_iload_n hx hb dL_isType_0 rfl (lv_at hl 0 rfl) ?_
  refine m_zleN (tgt := 36) hx hb (by omega) dL_isType_1 (by decide) (fun c_1 => ?_) (fun c_1 => ?_)
  · refine lv_iconst (v := nI 0) hx hb dL_isType_36 (by decide) ?_
    refine m_top (y := bI false) (by decide) ?_
    exact m_zret hx hb hr hlocks hI (post := fun r g1 => r = bI (isT q) ∧ g1 = g) (v := false) (⟨by rw [show isT q = false from decide_eq_false (by omega)], rfl⟩) dL_isType_37
  · refine lv_iload_n hx hb dL_isType_4 rfl (lv_at hl 0 rfl) ?_
    refine lv_iconst (v := nI 2) hx hb dL_isType_5 (by decide) ?_
    refine m_ceqN (tgt := 36) hx hb (by omega) (by omega) dL_isType_6 (by decide) (fun c_6 => ?_) (fun c_6 => ?_)
    · refine lv_iconst (v := nI 0) hx hb dL_isType_36 (by decide) ?_
      refine m_top (y := bI false) (by decide) ?_
      exact m_zret hx hb hr hlocks hI (post := fun r g1 => r = bI (isT q) ∧ g1 = g) (v := false) (⟨by rw [show isT q = false from decide_eq_false (by omega)], rfl⟩) dL_isType_37
    · refine lv_iload_n hx hb dL_isType_9 rfl (lv_at hl 0 rfl) ?_
      refine lv_iconst (v := nI 4) hx hb dL_isType_10 (by decide) ?_
      refine m_ceqN (tgt := 36) hx hb (by omega) (by omega) dL_isType_11 (by decide) (fun c_11 => ?_) (fun c_11 => ?_)
      · refine lv_iconst (v := nI 0) hx hb dL_isType_36 (by decide) ?_
        refine m_top (y := bI false) (by decide) ?_
        exact m_zret hx hb hr hlocks hI (post := fun r g1 => r = bI (isT q) ∧ g1 = g) (v := false) (⟨by rw [show isT q = false from decide_eq_false (by omega)], rfl⟩) dL_isType_37
      · refine lv_iload_n hx hb dL_isType_14 rfl (lv_at hl 0 rfl) ?_
        refine lv_bipush (v := nI 8) hx hb dL_isType_15 (by decide) ?_
        refine m_ceqN (tgt := 36) hx hb (by omega) (by omega) dL_isType_17 (by decide) (fun c_17 => ?_) (fun c_17 => ?_)
        · refine lv_iconst (v := nI 0) hx hb dL_isType_36 (by decide) ?_
          refine m_top (y := bI false) (by decide) ?_
          exact m_zret hx hb hr hlocks hI (post := fun r g1 => r = bI (isT q) ∧ g1 = g) (v := false) (⟨by rw [show isT q = false from decide_eq_false (by omega)], rfl⟩) dL_isType_37
        · refine lv_iload_n hx hb dL_isType_20 rfl (lv_at hl 0 rfl) ?_
          refine lv_bipush (v := nI 27) hx hb dL_isType_21 (by decide) ?_
          refine m_ceqN (tgt := 36) hx hb (by omega) (by omega) dL_isType_23 (by decide) (fun c_23 => ?_) (fun c_23 => ?_)
          · refine lv_iconst (v := nI 0) hx hb dL_isType_36 (by decide) ?_
            refine m_top (y := bI false) (by decide) ?_
            exact m_zret hx hb hr hlocks hI (post := fun r g1 => r = bI (isT q) ∧ g1 = g) (v := false) (⟨by rw [show isT q = false from decide_eq_false (by omega)], rfl⟩) dL_isType_37
          · refine lv_iload_n hx hb dL_isType_26 rfl (lv_at hl 0 rfl) ?_
            refine lv_bipush (v := nI 31) hx hb dL_isType_27 (by decide) ?_
            refine m_cgeN (tgt := 36) hx hb (by omega) (by omega) dL_isType_29 (by decide) (fun c_29 => ?_) (fun c_29 => ?_)
            · refine lv_iconst (v := nI 0) hx hb dL_isType_36 (by decide) ?_
              refine m_top (y := bI false) (by decide) ?_
              exact m_zret hx hb hr hlocks hI (post := fun r g1 => r = bI (isT q) ∧ g1 = g) (v := false) (⟨by rw [show isT q = false from decide_eq_false (by omega)], rfl⟩) dL_isType_37
            · refine lv_iconst (v := nI 1) hx hb dL_isType_32 (by decide) ?_
              refine lv_goto (tgt := 37) hx hb dL_isType_33 (by decide) ?_
              refine m_top (y := bI true) (by decide) ?_
              exact m_zret hx hb hr hlocks hI (post := fun r g1 => r = bI (isT q) ∧ g1 = g) (v := true) (⟨by rw [show isT q = true from decide_eq_true (by omega)], rfl⟩) dL_isType_37
set_option maxHeartbeats 8000000 in
set_option maxRecDepth 100000 in
theorem c_L_codes (k : mC) (l : Launch) (ad : Nat → Nat) (N : Nat) (g : Nat → va_E) (sz : Nat)   : mGq k l yL_codes wsL_codes { frames := 1, cells := 1, slots := 55, locals := 20 } ad N g sz 1 55 [] (mMk ad N g (.inl (k.2.1.1, 55, .inl (fun j => nI (cd j))))) := by
  show Met l yL_codes wsL_codes { frames := 1, cells := 1, slots := 55, locals := 20 } (mPc k ad N g sz []) (va_Qq (S := mU) (fun r w9 => (mMk ad N g (.inl (k.2.1.1, 55, .inl (fun j => nI (cd j))))) r w9.1 w9.2.1 w9.2.2) (mBg k (mA ad N sz)) (mA ad N sz)) 1 55 (mA ad N sz)
  refine mOfG (Qc := fun z9 => va_Qq (S := mU) (fun r w9 => (mMk ad N g (.inl (k.2.1.1, 55, .inl (fun j => nI (cd j))))) r w9.1 w9.2.1 w9.2.2) (mBg k (mA ad N z9)) (mA ad N z9)) (cc := cL_codes) (maxL := 3) (ret := (some (.array .int))) (by decide) rfl (Nat.le_of_ble_eq_true rfl) ?_
  intro p e s m below meth c hx hb hr hts hown hlocks hml hin H locs hH hE hI ls hl
  have hl : lv_has ls 3 [] := hl
  refine lv_bipush (v := nI 55) hx hb dL_codes_0 (by decide) ?_
  refine m_newi (n := 55) (c1 := 1) (s1 := 55) hx hb (hts (.arrayClass .int) (by decide +kernel)) hE hI (by omega) (by omega) (by omega) (by show _ ≤ 1; omega) (by show _ ≤ 55; omega) dL_codes_2 (fun ad1 H hag1 hE hI => ?_)
  obtain ⟨g1, hg1⟩ : ∃ zz, zz = va_up g N (.inl (k.2.1.1, 55, .inl (fun _ => nI 0))) := ⟨_, rfl⟩
  have hE : mE k ad1 (N + 1) (mA ad N s.heap.size) s := hE
  replace hI : mI k ad1 (N + 1) g1 (mA ad N s.heap.size) s H locs := by rw [hg1]; exact hI
  have hgg1 : ∀ i, i < N → g1 i = g i := fun i hi => by rw [hg1, va_up_ne _ _ (by omega)]
  have hnw1 : g1 N = .inl (k.2.1.1, 55, .inl (fun _ => nI 0)) := by rw [hg1, va_up_self]
  refine lv_astore_n (lv' := [(0, .ref (ad1 N))]) hx hb dL_codes_4 rfl hl (by decide) rfl (fun ls hl => ?_)
  rw [show (fun _ : Nat => nI 0) = fun j => nI (ct 0 j) from rfl] at hnw1
  refine lv_iconst (v := nI 1) hx hb dL_codes_5 (by decide) ?_
  refine lv_istore_n (lv' := [(1, .int (nI 1)), (0, .ref (ad1 N))]) hx hb dL_codes_6 rfl hl (by decide) rfl (fun ls hl => ?_)
  refine lv_iconst (v := nI 0) hx hb dL_codes_7 (by decide) ?_
  refine lv_istore_n (lv' := [(2, .int (nI 0)), (1, .int (nI 1)), (0, .ref (ad1 N))]) hx hb dL_codes_8 rfl hl (by decide) rfl (fun ls hl => ?_)
  refine m_loop (σ := Nat × (Nat → va_E)) (fun ⟨c9, gi⟩ => (c9 ≤ 32) ∧ gi N = .inl (k.2.1.1, 55, .inl (fun j => nI (ct c9 j))) ∧ ∀ i, i ≠ N → gi i = g1 i) (fun ⟨c9, gi⟩ => 32 - c9) (fun ⟨c9, gi⟩ => gi) (fun ⟨c9, gi⟩ => [(0, .ref (ad1 N)), (1, .int (nI (nx c9))), (2, .int (nI c9))]) (nL := 3) (0, g1) ⟨Nat.zero_le _, hnw1, fun _ _ => rfl⟩ hI (lv_sub hl [2, 1, 0] rfl) ?_
  rintro ⟨c9, g2⟩ ⟨hc9, hcl9, hf9⟩ ih9 H locs ls hI hl
  have hI : mI k ad1 (N + 1) g2 (mA ad N s.heap.size) s H locs := hI
  have hl : lv_has ls 3 [(0, .ref (ad1 N)), (1, .int (nI (nx c9))), (2, .int (nI c9))] := hl
  have hcl9 : g2 N = .inl (k.2.1.1, 55, .inl (fun j => nI (ct c9 j))) := hcl9
  have hf9 : ∀ i, i ≠ N → g2 i = g1 i := hf9
  have hnl := nx_le c9 (by omega)
  refine lv_iload_n hx hb dL_codes_9 rfl (lv_at hl 2 rfl) ?_
  refine lv_bipush (v := nI 32) hx hb dL_codes_10 (by decide) ?_
  refine m_cgeN (tgt := 45) hx hb (by omega) (by omega) dL_codes_12 (by decide) (fun c_12 => ?_) (fun c_12 => ?_)
  · refine lv_aload_n hx hb dL_codes_45 rfl (lv_at hl 0 rfl) ?_
    refine lv_bipush (v := nI 53) hx hb dL_codes_46 (by decide) ?_
    refine lv_iconst (v := nI 4) hx hb dL_codes_48 (by decide) ?_
    refine m_iast hx hb hE hI N (by omega) (j := 53) hcl9 (by omega) (by omega) dL_codes_49 (fun H locs hI => ?_)
    obtain ⟨g3, hg3⟩ : ∃ zz, zz = va_up g2 N (.inl (k.2.1.1, 55, .inl (upd (fun j => nI (ct c9 j)) 53 (nI 4)))) := ⟨_, rfl⟩
    replace hI : mI k ad1 (N + 1) g3 (mA ad N s.heap.size) s H locs := by rw [hg3]; exact hI
    have m_1 : g3 N = .inl (k.2.1.1, 55, .inl (upd (fun j => nI (ct c9 j)) 53 (nI 4))) := by rw [hg3, va_up_self]
    refine lv_aload_n hx hb dL_codes_50 rfl (lv_at hl 0 rfl) ?_
    refine lv_bipush (v := nI 54) hx hb dL_codes_51 (by decide) ?_
    refine lv_iconst (v := nI 2) hx hb dL_codes_53 (by decide) ?_
    refine m_iast hx hb hE hI N (by omega) (j := 54) m_1 (by omega) (by omega) dL_codes_54 (fun H locs hI => ?_)
    obtain ⟨g4, hg4⟩ : ∃ zz, zz = va_up g3 N (.inl (k.2.1.1, 55, .inl (upd (upd (fun j => nI (ct c9 j)) 53 (nI 4)) 54 (nI 2)))) := ⟨_, rfl⟩
    replace hI : mI k ad1 (N + 1) g4 (mA ad N s.heap.size) s H locs := by rw [hg4]; exact hI
    have m_2 : g4 N = .inl (k.2.1.1, 55, .inl (upd (upd (fun j => nI (ct c9 j)) 53 (nI 4)) 54 (nI 2))) := by rw [hg4, va_up_self]
    refine lv_aload_n hx hb dL_codes_55 rfl (lv_at hl 0 rfl) ?_
    have hc32 : c9 = 32 := by omega
    rw [hc32, upd_nI, upd_nI] at m_2
    replace hI := m_fni hI N (by omega) (fun j => nI (cd j)) m_2 (fun j hj => by rw [ct_cd j hj])
    obtain ⟨g5, hg5⟩ : ∃ zz, zz = va_up g4 N (.inl (k.2.1.1, 55, .inl (fun j => nI (cd j)))) := ⟨_, rfl⟩
    replace hI : mI k ad1 (N + 1) g5 (mA ad N s.heap.size) s H locs := by rw [hg5]; exact hI
    have m_3 : g5 N = .inl (k.2.1.1, 55, .inl (fun j => nI (cd j))) := by rw [hg5, va_up_self]
    have hfr0 : ∀ i, i < N → g5 i = g i := fun i hi => by rw [hg5, va_up_ne _ _ (by omega), hg4, va_up_ne _ _ (by omega), hg3, va_up_ne _ _ (by omega), hf9 i (by omega), hgg1 i hi]
    exact m_gqret hx hb hr (Or.inr ⟨_, rfl⟩) hlocks hE hI (post := mMk ad N g (.inl (k.2.1.1, 55, .inl (fun j => nI (cd j))))) (v := ad1 N) (⟨rfl, rfl, hag1, hfr0, m_3⟩) (by omega) (by omega) dL_codes_56
  · refine lv_iload_n hx hb dL_codes_15 rfl (lv_at hl 2 rfl) ?_
    refine m_callSi (As := [.int (nI c9)]) (rest := []) ⟨hx, hb, hml, hown, hts⟩ hE hI (c_L_isType k l ad1 (N + 1) g2 _ c9 (by omega)) (va_cwS 1 hts gL_codes_L_isType rfl rfl rfl (by decide +kernel) ⟨Nat.le_of_ble_eq_true rfl, Nat.le_of_ble_eq_true rfl⟩) rfl hl.1 rfl (Nat.le_of_ble_eq_true rfl) dL_codes_16 ⟨(by show _ ≤ 1; omega), (by show _ ≤ 55; omega)⟩ (m_deti (fun H locs hI => ?_))
    refine m_zneB (tgt := 25) hx hb dL_codes_19 (by decide) (fun c_19 => ?_) (fun c_19 => ?_)
    · have hnt := nx_lt c9 (by omega) c_19
      refine lv_aload_n hx hb dL_codes_25 rfl (lv_at hl 0 rfl) ?_
      refine lv_iload_n hx hb dL_codes_26 rfl (lv_at hl 1 rfl) ?_
      refine lv_iload_n hx hb dL_codes_27 rfl (lv_at hl 2 rfl) ?_
      refine m_iast hx hb hE hI N (by omega) (j := nx c9) hcl9 (by omega) (by omega) dL_codes_28 (fun H locs hI => ?_)
      obtain ⟨g6, hg6⟩ : ∃ zz, zz = va_up g2 N (.inl (k.2.1.1, 55, .inl (upd (fun j => nI (ct c9 j)) (nx c9) (nI c9)))) := ⟨_, rfl⟩
      replace hI : mI k ad1 (N + 1) g6 (mA ad N s.heap.size) s H locs := by rw [hg6]; exact hI
      have m_4 : g6 N = .inl (k.2.1.1, 55, .inl (upd (fun j => nI (ct c9 j)) (nx c9) (nI c9))) := by rw [hg6, va_up_self]
      refine lv_aload_n hx hb dL_codes_29 rfl (lv_at hl 0 rfl) ?_
      refine lv_iload_n hx hb dL_codes_30 rfl (lv_at hl 1 rfl) ?_
      refine lv_bipush (v := nI 26) hx hb dL_codes_31 (by decide) ?_
      refine m_iaddN hx hb dL_codes_33 ?_
      refine lv_iload_n hx hb dL_codes_34 rfl (lv_at hl 2 rfl) ?_
      refine m_iast hx hb hE hI N (by omega) (j := (nx c9) + 26) m_4 (by omega) (by omega) dL_codes_35 (fun H locs hI => ?_)
      obtain ⟨g7, hg7⟩ : ∃ zz, zz = va_up g6 N (.inl (k.2.1.1, 55, .inl (upd (upd (fun j => nI (ct c9 j)) (nx c9) (nI c9)) ((nx c9) + 26) (nI c9)))) := ⟨_, rfl⟩
      replace hI : mI k ad1 (N + 1) g7 (mA ad N s.heap.size) s H locs := by rw [hg7]; exact hI
      have m_5 : g7 N = .inl (k.2.1.1, 55, .inl (upd (upd (fun j => nI (ct c9 j)) (nx c9) (nI c9)) ((nx c9) + 26) (nI c9))) := by rw [hg7, va_up_self]
      refine lv_iinc (v := nI ((nx c9) + 1)) (lv' := [(1, .int (nI ((nx c9) + 1))), (0, .ref (ad1 N)), (2, .int (nI c9))]) hx hb dL_codes_36 hl (k := 1) rfl (nI_add (nx c9) 1) (by decide) rfl (fun ls hl => ?_)
      refine lv_iinc (v := nI (c9 + 1)) (lv' := [(2, .int (nI (c9 + 1))), (1, .int (nI ((nx c9) + 1))), (0, .ref (ad1 N))]) hx hb dL_codes_39 hl (k := 2) rfl (nI_add c9 1) (by decide) rfl (fun ls hl => ?_)
      refine lv_goto (tgt := 9) hx hb dL_codes_42 (by decide) ?_
      have hnx : nx (c9 + 1) = nx c9 + 1 := by show (if isT c9 = true then nx c9 + 1 else nx c9) = _; rw [if_pos c_19]
      have hl : lv_has ls 3 [(2, .int (nI (c9 + 1))), (1, .int (nI (nx (c9 + 1)))), (0, .ref (ad1 N))] := by rw [hnx]; exact hl
      have hfr9 : ∀ i, i ≠ N → g7 i = g1 i := fun i hi => by rw [hg7, va_up_ne _ _ hi, hg6, va_up_ne _ _ hi]; exact hf9 i hi
      rw [upd_nI, upd_nI, show va_up (va_up (ct c9) (nx c9) c9) (nx c9 + 26) c9 = ct (c9 + 1) from by show _ = if isT c9 = true then _ else ct c9; rw [if_pos c_19]] at m_5
      exact ih9 (c9 + 1, g7) ⟨(by omega), m_5, hfr9⟩ (show 32 - (c9 + 1) < 32 - c9 by omega) _ _ _ hI (lv_sub hl [2, 1, 0] rfl)
    · refine lv_goto (tgt := 39) hx hb dL_codes_22 (by decide) ?_
      refine lv_iinc (v := nI (c9 + 1)) (lv' := [(2, .int (nI (c9 + 1))), (0, .ref (ad1 N)), (1, .int (nI (nx c9)))]) hx hb dL_codes_39 hl (k := 2) rfl (nI_add c9 1) (by decide) rfl (fun ls hl => ?_)
      refine lv_goto (tgt := 9) hx hb dL_codes_42 (by decide) ?_
      have hnx : nx (c9 + 1) = nx c9 := by show (if isT c9 = true then nx c9 + 1 else nx c9) = _; rw [c_19]; rfl
      have hl : lv_has ls 3 [(2, .int (nI (c9 + 1))), (0, .ref (ad1 N)), (1, .int (nI (nx (c9 + 1))))] := by rw [hnx]; exact hl
      have hfr9 : ∀ i, i ≠ N → g2 i = g1 i := hf9
      rw [show ct c9 = ct (c9 + 1) from by show ct c9 = if isT c9 = true then _ else ct c9; rw [c_19]; rfl] at hcl9
      exact ih9 (c9 + 1, g2) ⟨(by omega), hcl9, hfr9⟩ (show 32 - (c9 + 1) < 32 - c9 by omega) _ _ _ hI (lv_sub hl [1, 2, 0] rfl)
set_option maxHeartbeats 8000000 in
set_option maxRecDepth 100000 in
theorem c_X4_more (k : mC) (l : Launch) (ad : Nat → Nat) (N : Nat) (g : Nat → va_E) (sz : Nat) (i n : Nat) (f h : Nat → Int32) (v : Int32) (hi : i < N) (hn : n ≤ 200) (he : g i = .inl (k.2.1.1, n, .inl f)) (hh : ∀ j, j < n → h j = f j) (hv : h n = v) : mGq k l yX4_more wsX4_more { frames := 0, cells := 1, slots := n + 1, locals := 0 } ad N g sz 1 (n + 1) [.ref (ad i), .int v] (mMk ad N g (.inl (k.2.1.1, n + 1, .inl h))) := by
  show Met l yX4_more wsX4_more { frames := 0, cells := 1, slots := n + 1, locals := 0 } (mPc k ad N g sz [.ref (ad i), .int v]) (va_Qq (S := mU) (fun r w9 => (mMk ad N g (.inl (k.2.1.1, n + 1, .inl h))) r w9.1 w9.2.1 w9.2.2) (mBg k (mA ad N sz)) (mA ad N sz)) 1 (n + 1) (mA ad N sz)
  refine mOfG (Qc := fun z9 => va_Qq (S := mU) (fun r w9 => (mMk ad N g (.inl (k.2.1.1, n + 1, .inl h))) r w9.1 w9.2.1 w9.2.2) (mBg k (mA ad N z9)) (mA ad N z9)) (cc := cX4_more) (maxL := 4) (ret := (some (.array .int))) (by decide) rfl (Nat.le_of_ble_eq_true rfl) ?_
  intro p e s m below meth c hx hb hr hts hown hlocks hml hin H locs hH hE hI ls hl
  have hl : lv_has ls 4 [(0, .ref (ad i)), (1, .int v)] := hl
  refine lv_aload_n hx hb dX4_more_0 rfl (lv_at hl 0 rfl) ?_
  refine m_aleni hx hb hE hI i (by omega) he dX4_more_1 ?_
  refine lv_iconst (v := nI 1) hx hb dX4_more_2 (by decide) ?_
  refine m_iaddN hx hb dX4_more_3 ?_
  refine m_newi (n := n + 1) (c1 := 1) (s1 := (n + 1)) hx hb (hts (.arrayClass .int) (by decide +kernel)) hE hI (by omega) (by omega) (by omega) (by show _ ≤ 1; omega) (by show _ ≤ n + 1; omega) dX4_more_4 (fun ad1 H hag1 hE hI => ?_)
  obtain ⟨g1, hg1⟩ : ∃ zz, zz = va_up g N (.inl (k.2.1.1, (n + 1), .inl (fun _ => nI 0))) := ⟨_, rfl⟩
  have hE : mE k ad1 (N + 1) (mA ad N s.heap.size) s := hE
  replace hI : mI k ad1 (N + 1) g1 (mA ad N s.heap.size) s H locs := by rw [hg1]; exact hI
  have hgg1 : ∀ i, i < N → g1 i = g i := fun i hi => by rw [hg1, va_up_ne _ _ (by omega)]
  have he : g1 i = .inl (k.2.1.1, n, .inl f) := by rw [hgg1 _ (by omega)]; exact he
  have hl : lv_has ls 4 [(0, .ref (ad1 i)), (1, .int v)] := by rw [hag1 i (by omega)]; exact hl
  have hnw1 : g1 N = .inl (k.2.1.1, (n + 1), .inl (fun _ => nI 0)) := by rw [hg1, va_up_self]
  refine lv_astore_n (lv' := [(2, .ref (ad1 N)), (0, .ref (ad1 i)), (1, .int v)]) hx hb dX4_more_6 rfl hl (by decide) rfl (fun ls hl => ?_)
  rw [show (fun _ : Nat => nI 0) = fun j => if j < 0 then h j else nI 0 from funext fun j => (if_neg (Nat.not_lt_zero j)).symm] at hnw1
  refine lv_iconst (v := nI 0) hx hb dX4_more_7 (by decide) ?_
  refine lv_istore_n (lv' := [(3, .int (nI 0)), (2, .ref (ad1 N)), (0, .ref (ad1 i)), (1, .int v)]) hx hb dX4_more_8 rfl hl (by decide) rfl (fun ls hl => ?_)
  refine m_loop (σ := Nat × (Nat → va_E)) (fun ⟨q, gi⟩ => (q ≤ n) ∧ gi N = .inl (k.2.1.1, (n + 1), .inl (fun j => if j < q then h j else nI 0)) ∧ ∀ i, i ≠ N → gi i = g1 i) (fun ⟨q, gi⟩ => n - q) (fun ⟨q, gi⟩ => gi) (fun ⟨q, gi⟩ => [(0, .ref (ad1 i)), (1, .int v), (2, .ref (ad1 N)), (3, .int (nI q))]) (nL := 4) (0, g1) ⟨Nat.zero_le _, hnw1, fun _ _ => rfl⟩ hI (lv_sub hl [2, 3, 1, 0] rfl) ?_
  rintro ⟨q, g2⟩ ⟨hq9, hcl9, hf9⟩ ih9 H locs ls hI hl
  have hI : mI k ad1 (N + 1) g2 (mA ad N s.heap.size) s H locs := hI
  have hl : lv_has ls 4 [(0, .ref (ad1 i)), (1, .int v), (2, .ref (ad1 N)), (3, .int (nI q))] := hl
  have hcl9 : g2 N = .inl (k.2.1.1, (n + 1), .inl (fun j => if j < q then h j else nI 0)) := hcl9
  have hf9 : ∀ i, i ≠ N → g2 i = g1 i := hf9
  have he : g2 i = .inl (k.2.1.1, n, .inl f) := by rw [hf9 _ (by omega)]; exact he
  refine lv_iload_n hx hb dX4_more_9 rfl (lv_at hl 3 rfl) ?_
  refine lv_aload_n hx hb dX4_more_10 rfl (lv_at hl 0 rfl) ?_
  refine m_aleni hx hb hE hI i (by omega) he dX4_more_11 ?_
  refine m_cgeN (tgt := 27) hx hb (by omega) (by omega) dX4_more_12 (by decide) (fun c_12 => ?_) (fun c_12 => ?_)
  · refine lv_aload_n hx hb dX4_more_27 rfl (lv_at hl 2 rfl) ?_
    refine lv_aload_n hx hb dX4_more_28 rfl (lv_at hl 0 rfl) ?_
    refine m_aleni hx hb hE hI i (by omega) he dX4_more_29 ?_
    refine lv_iload_n hx hb dX4_more_30 rfl (lv_at hl 1 rfl) ?_
    refine m_iast hx hb hE hI N (by omega) (j := n) hcl9 (by omega) (by omega) dX4_more_31 (fun H locs hI => ?_)
    obtain ⟨g3, hg3⟩ : ∃ zz, zz = va_up g2 N (.inl (k.2.1.1, (n + 1), .inl (upd (fun j => if j < q then h j else nI 0) n v))) := ⟨_, rfl⟩
    replace hI : mI k ad1 (N + 1) g3 (mA ad N s.heap.size) s H locs := by rw [hg3]; exact hI
    have m_1 : g3 i = .inl (k.2.1.1, n, .inl f) := by rw [hg3, va_up_ne _ _ (by omega)]; exact he
    have m_2 : g3 N = .inl (k.2.1.1, (n + 1), .inl (upd (fun j => if j < q then h j else nI 0) n v)) := by rw [hg3, va_up_self]
    refine lv_aload_n hx hb dX4_more_32 rfl (lv_at hl 2 rfl) ?_
    have hqn : q = n := by omega
    rw [hqn, ← hv, mor_up] at m_2
    replace hI := m_fni hI N (by omega) h m_2 (fun j hj => if_pos hj)
    obtain ⟨g4, hg4⟩ : ∃ zz, zz = va_up g3 N (.inl (k.2.1.1, (n + 1), .inl h)) := ⟨_, rfl⟩
    replace hI : mI k ad1 (N + 1) g4 (mA ad N s.heap.size) s H locs := by rw [hg4]; exact hI
    have m_3 : g4 i = .inl (k.2.1.1, n, .inl f) := by rw [hg4, va_up_ne _ _ (by omega)]; exact m_1
    have m_4 : g4 N = .inl (k.2.1.1, (n + 1), .inl h) := by rw [hg4, va_up_self]
    have hfr0 : ∀ i, i < N → g4 i = g i := fun i hi => by rw [hg4, va_up_ne _ _ (by omega), hg3, va_up_ne _ _ (by omega), hf9 i (by omega), hgg1 i hi]
    exact m_gqret hx hb hr (Or.inr ⟨_, rfl⟩) hlocks hE hI (post := mMk ad N g (.inl (k.2.1.1, n + 1, .inl h))) (v := ad1 N) (⟨rfl, rfl, hag1, hfr0, m_4⟩) (by omega) (by omega) dX4_more_33
  · refine lv_aload_n hx hb dX4_more_15 rfl (lv_at hl 2 rfl) ?_
    refine lv_iload_n hx hb dX4_more_16 rfl (lv_at hl 3 rfl) ?_
    refine lv_aload_n hx hb dX4_more_17 rfl (lv_at hl 0 rfl) ?_
    refine lv_iload_n hx hb dX4_more_18 rfl (lv_at hl 3 rfl) ?_
    refine m_iald hx hb hE hI i (by omega) (j := q) he (by omega) (by omega) dX4_more_19 ?_
    refine m_iast hx hb hE hI N (by omega) (j := q) hcl9 (by omega) (by omega) dX4_more_20 (fun H locs hI => ?_)
    obtain ⟨g5, hg5⟩ : ∃ zz, zz = va_up g2 N (.inl (k.2.1.1, (n + 1), .inl (upd (fun j => if j < q then h j else nI 0) q (f q)))) := ⟨_, rfl⟩
    replace hI : mI k ad1 (N + 1) g5 (mA ad N s.heap.size) s H locs := by rw [hg5]; exact hI
    have m_5 : g5 i = .inl (k.2.1.1, n, .inl f) := by rw [hg5, va_up_ne _ _ (by omega)]; exact he
    have m_6 : g5 N = .inl (k.2.1.1, (n + 1), .inl (upd (fun j => if j < q then h j else nI 0) q (f q))) := by rw [hg5, va_up_self]
    refine lv_iinc (v := nI (q + 1)) (lv' := [(3, .int (nI (q + 1))), (0, .ref (ad1 i)), (1, .int v), (2, .ref (ad1 N))]) hx hb dX4_more_21 hl (k := 3) rfl (nI_add q 1) (by decide) rfl (fun ls hl => ?_)
    refine lv_goto (tgt := 9) hx hb dX4_more_24 (by decide) ?_
    have hfr9 : ∀ i, i ≠ N → g5 i = g1 i := fun i hi => by rw [hg5, va_up_ne _ _ hi]; exact hf9 i hi
    rw [← hh q (by omega), mor_up] at m_6
    exact ih9 (q + 1, g5) ⟨(by omega), m_6, hfr9⟩ (show n - (q + 1) < n - q by omega) _ _ _ hI (lv_sub hl [1, 2, 3, 0] rfl)
set_option maxHeartbeats 8000000 in
set_option maxRecDepth 100000 in
theorem c_L_characters (k : mC) (l : Launch) (ad : Nat → Nat) (N : Nat) (g : Nat → va_E) (sz : Nat) (b0 : Bool)  : mGq k l yL_characters wsL_characters { frames := 2, cells := 2, slots := 87, locals := 42 } ad N g sz 2 87 [.int (bI b0)] (mMk ad N g (.inl (k.2.1.1, 32, .inl (fun j => nI (chF j b0))))) := by
  show Met l yL_characters wsL_characters { frames := 2, cells := 2, slots := 87, locals := 42 } (mPc k ad N g sz [.int (bI b0)]) (va_Qq (S := mU) (fun r w9 => (mMk ad N g (.inl (k.2.1.1, 32, .inl (fun j => nI (chF j b0))))) r w9.1 w9.2.1 w9.2.2) (mBg k (mA ad N sz)) (mA ad N sz)) 2 87 (mA ad N sz)
  refine mOfG (Qc := fun z9 => va_Qq (S := mU) (fun r w9 => (mMk ad N g (.inl (k.2.1.1, 32, .inl (fun j => nI (chF j b0))))) r w9.1 w9.2.1 w9.2.2) (mBg k (mA ad N z9)) (mA ad N z9)) (cc := cL_characters) (maxL := 4) (ret := (some (.array .int))) (by decide) rfl (Nat.le_of_ble_eq_true rfl) ?_
  intro p e s m below meth c hx hb hr hts hown hlocks hml hin H locs hH hE hI ls hl
  have hl : lv_has ls 4 [(0, .int (bI b0))] := hl
  refine lv_bipush (v := nI 32) hx hb dL_characters_0 (by decide) ?_
  refine m_newi (n := 32) (c1 := 1) (s1 := 32) hx hb (hts (.arrayClass .int) (by decide +kernel)) hE hI (by omega) (by omega) (by omega) (by show _ ≤ 2; omega) (by show _ ≤ 87; omega) dL_characters_2 (fun ad1 H hag1 hE hI => ?_)
  obtain ⟨g1, hg1⟩ : ∃ zz, zz = va_up g N (.inl (k.2.1.1, 32, .inl (fun _ => nI 0))) := ⟨_, rfl⟩
  have hE : mE k ad1 (N + 1) (mA ad N s.heap.size) s := hE
  replace hI : mI k ad1 (N + 1) g1 (mA ad N s.heap.size) s H locs := by rw [hg1]; exact hI
  have hgg1 : ∀ i, i < N → g1 i = g i := fun i hi => by rw [hg1, va_up_ne _ _ (by omega)]
  have hnw1 : g1 N = .inl (k.2.1.1, 32, .inl (fun _ => nI 0)) := by rw [hg1, va_up_self]
  refine lv_astore_n (lv' := [(1, .ref (ad1 N)), (0, .int (bI b0))]) hx hb dL_characters_4 rfl hl (by decide) rfl (fun ls hl => ?_)
  rw [show (fun _ : Nat => nI 0) = fun j => nI (chB b0 0 j) from rfl] at hnw1
  refine m_callSgq (As := []) (rest := []) (c1 := 2) (s1 := 87) ⟨hx, hb, hml, hown, hts⟩ hE hI (c_L_codes k l ad1 (N + 1) g1 _) (va_cwS 0 hts gL_characters_L_codes rfl rfl rfl (by decide +kernel) ⟨Nat.le_of_ble_eq_true rfl, Nat.le_of_ble_eq_true rfl⟩) rfl hl.1 rfl (Nat.le_of_ble_eq_true rfl) dL_characters_5 (by omega) (by omega) ⟨(by show _ ≤ 2; omega), (by show _ ≤ 87; omega)⟩ (fun r9 ad2 N2 g9 H locs hp hE hI => ?_)
  obtain ⟨g2, hg2⟩ : ∃ zz, zz = g9 := ⟨_, rfl⟩
  rw [← hg2] at hp hI
  obtain ⟨hr2, hn2, hag2, hgg2, hnw2⟩ := hp
  subst hn2
  have hE : mE k ad2 (N + 2) (mA ad N s.heap.size) s := hE
  have hI : mI k ad2 (N + 2) g2 (mA ad N s.heap.size) s H locs := hI
  subst hr2
  replace hgg2 : ∀ i, i < N + 1 → g2 i = g1 i := hgg2
  have hnw1 : g2 N = .inl (k.2.1.1, 32, .inl (fun j => nI (chB b0 0 j))) := by rw [hgg2 _ (by omega)]; exact hnw1
  have hl : lv_has ls 4 [(1, .ref (ad2 N)), (0, .int (bI b0))] := by rw [hag2 N (by omega)]; exact hl
  have hnw2 : g2 (N + 1) = .inl (k.2.1.1, 55, .inl (fun j => nI (cd j))) := hnw2
  show W p l e _ s m _ below meth c _ _ _ _ _ (F0 m _ _ (.ref (ad2 (N + 1)) :: _))
  refine lv_astore_n (lv' := [(2, .ref (ad2 (N + 1))), (1, .ref (ad2 N)), (0, .int (bI b0))]) hx hb dL_characters_8 rfl hl (by decide) rfl (fun ls hl => ?_)
  refine lv_iconst (v := nI 1) hx hb dL_characters_9 (by decide) ?_
  refine lv_istore_n (lv' := [(3, .int (nI 1)), (2, .ref (ad2 (N + 1))), (1, .ref (ad2 N)), (0, .int (bI b0))]) hx hb dL_characters_10 rfl hl (by decide) rfl (fun ls hl => ?_)
  refine m_loop (σ := Nat × (Nat → va_E)) (fun ⟨m9, gi⟩ => (m9 ≤ 54) ∧ gi N = .inl (k.2.1.1, 32, .inl (fun j => nI (chB b0 m9 j))) ∧ ∀ i, i ≠ N → gi i = g2 i) (fun ⟨m9, gi⟩ => 54 - m9) (fun ⟨m9, gi⟩ => gi) (fun ⟨m9, gi⟩ => [(0, .int (bI b0)), (1, .ref (ad2 N)), (2, .ref (ad2 (N + 1))), (3, .int (nI (m9 + 1)))]) (nL := 4) (0, g2) ⟨Nat.zero_le _, hnw1, fun _ _ => rfl⟩ hI (lv_sub hl [3, 2, 1, 0] rfl) ?_
  rintro ⟨m9, g3⟩ ⟨hm9, hcl11, hf11⟩ ih11 H locs ls hI hl
  have hI : mI k ad2 (N + 2) g3 (mA ad N s.heap.size) s H locs := hI
  have hl : lv_has ls 4 [(0, .int (bI b0)), (1, .ref (ad2 N)), (2, .ref (ad2 (N + 1))), (3, .int (nI (m9 + 1)))] := hl
  have hcl11 : g3 N = .inl (k.2.1.1, 32, .inl (fun j => nI (chB b0 m9 j))) := hcl11
  have hf11 : ∀ i, i ≠ N → g3 i = g2 i := hf11
  have hnw2 : g3 (N + 1) = .inl (k.2.1.1, 55, .inl (fun j => nI (cd j))) := by rw [hf11 _ (by omega)]; exact hnw2
  refine lv_iload_n hx hb dL_characters_11 rfl (lv_at hl 3 rfl) ?_
  refine lv_bipush (v := nI 55) hx hb dL_characters_12 (by decide) ?_
  refine m_cgeN (tgt := 50) hx hb (by omega) (by omega) dL_characters_14 (by decide) (fun c_14 => ?_) (fun c_14 => ?_)
  · refine lv_aload_n hx hb dL_characters_50 rfl (lv_at hl 1 rfl) ?_
    have hm54 : m9 = 54 := by omega
    rw [hm54] at hcl11
    replace hI := m_fni hI N (by omega) (fun j => nI (chF j b0)) hcl11 (fun j hj => by rw [chB_chF b0 j hj])
    obtain ⟨g4, hg4⟩ : ∃ zz, zz = va_up g3 N (.inl (k.2.1.1, 32, .inl (fun j => nI (chF j b0)))) := ⟨_, rfl⟩
    replace hI : mI k ad2 (N + 2) g4 (mA ad N s.heap.size) s H locs := by rw [hg4]; exact hI
    have m_1 : g4 N = .inl (k.2.1.1, 32, .inl (fun j => nI (chF j b0))) := by rw [hg4, va_up_self]
    have m_2 : g4 (N + 1) = .inl (k.2.1.1, 55, .inl (fun j => nI (cd j))) := by rw [hg4, va_up_ne _ _ (by omega)]; exact hnw2
    have hfr0 : ∀ i, i < N → g4 i = g i := fun i hi => by rw [hg4, va_up_ne _ _ (by omega), hf11 i (by omega), hgg2 i (by omega), hgg1 i hi]
    have hag0 : ∀ i, i < N → ad2 i = ad i := fun i hi => by rw [hag2 i (by omega), hag1 i hi]
    obtain ⟨hE, hI⟩ := m_drop (N := N + 1) (ad := ad2) (g := g4) hE hI (by omega) (fun _ _ => rfl) (fun _ _ => rfl)
    exact m_gqret hx hb hr (Or.inr ⟨_, rfl⟩) hlocks hE hI (post := mMk ad N g (.inl (k.2.1.1, 32, .inl (fun j => nI (chF j b0))))) (v := ad2 N) (⟨rfl, rfl, hag0, hfr0, m_1⟩) (by omega) (by omega) dL_characters_51
  · refine lv_iload_n hx hb dL_characters_17 rfl (lv_at hl 3 rfl) ?_
    refine lv_bipush (v := nI 52) hx hb dL_characters_18 (by decide) ?_
    refine m_cgtN (tgt := 38) hx hb (by omega) (by omega) dL_characters_20 (by decide) (fun c_20 => ?_) (fun c_20 => ?_)
    · have hcc : 52 < m9 + 1 ∨ decide (26 < m9 + 1) = b0 := Or.inl (by omega)
      have hcdl := cd_lt (m9 + 1) (by omega)
      refine lv_aload_n hx hb dL_characters_38 rfl (lv_at hl 1 rfl) ?_
      refine lv_aload_n hx hb dL_characters_39 rfl (lv_at hl 2 rfl) ?_
      refine lv_iload_n hx hb dL_characters_40 rfl (lv_at hl 3 rfl) ?_
      refine m_iald hx hb hE hI (N + 1) (by omega) (j := m9 + 1) hnw2 (by omega) (by omega) dL_characters_41 ?_
      refine m_top (show (fun j => nI (cd j)) (m9 + 1) = nI (cd (m9 + 1)) from rfl) ?_
      refine lv_iload_n hx hb dL_characters_42 rfl (lv_at hl 3 rfl) ?_
      refine m_iast hx hb hE hI N (by omega) (j := cd (m9 + 1)) hcl11 (by omega) (by omega) dL_characters_43 (fun H locs hI => ?_)
      obtain ⟨g5, hg5⟩ : ∃ zz, zz = va_up g3 N (.inl (k.2.1.1, 32, .inl (upd (fun j => nI (chB b0 m9 j)) (cd (m9 + 1)) (nI (m9 + 1))))) := ⟨_, rfl⟩
      replace hI : mI k ad2 (N + 2) g5 (mA ad N s.heap.size) s H locs := by rw [hg5]; exact hI
      have m_3 : g5 N = .inl (k.2.1.1, 32, .inl (upd (fun j => nI (chB b0 m9 j)) (cd (m9 + 1)) (nI (m9 + 1)))) := by rw [hg5, va_up_self]
      have m_4 : g5 (N + 1) = .inl (k.2.1.1, 55, .inl (fun j => nI (cd j))) := by rw [hg5, va_up_ne _ _ (by omega)]; exact hnw2
      refine lv_iinc (v := nI ((m9 + 1) + 1)) (lv' := [(3, .int (nI ((m9 + 1) + 1))), (0, .int (bI b0)), (1, .ref (ad2 N)), (2, .ref (ad2 (N + 1)))]) hx hb dL_characters_44 hl (k := 3) rfl (nI_add (m9 + 1) 1) (by decide) rfl (fun ls hl => ?_)
      refine lv_goto (tgt := 11) hx hb dL_characters_47 (by decide) ?_
      have hfr9 : ∀ i, i ≠ N → g5 i = g2 i := fun i hi => by rw [hg5, va_up_ne _ _ hi]; exact hf11 i hi
      rw [upd_nI, show va_up (chB b0 m9) (cd (m9 + 1)) (m9 + 1) = chB b0 (m9 + 1) from by show _ = if 52 < m9 + 1 ∨ decide (26 < m9 + 1) = b0 then va_up (chB b0 m9) (cd (m9 + 1)) (m9 + 1) else chB b0 m9; rw [if_pos hcc]] at m_3
      exact ih11 (m9 + 1, g5) ⟨(by omega), m_3, hfr9⟩ (show 54 - (m9 + 1) < 54 - m9 by omega) _ _ _ hI (lv_sub hl [1, 2, 3, 0] rfl)
    · refine lv_iload_n hx hb dL_characters_23 rfl (lv_at hl 3 rfl) ?_
      refine lv_bipush (v := nI 26) hx hb dL_characters_24 (by decide) ?_
      refine m_cleN (tgt := 33) hx hb (by omega) (by omega) dL_characters_26 (by decide) (fun c_26 => ?_) (fun c_26 => ?_)
      · refine lv_iconst (v := nI 0) hx hb dL_characters_33 (by decide) ?_
        refine m_top (show nI 0 = bI false from rfl) ?_
        refine lv_iload_n hx hb dL_characters_34 rfl (lv_at hl 0 rfl) ?_
        refine m_cneB (tgt := 44) hx hb dL_characters_35 (by decide) (fun c_35 => ?_) (fun c_35 => ?_)
        · have hcc : ¬ (52 < m9 + 1 ∨ decide (26 < m9 + 1) = b0) := fun z => by
            rcases z with z | z
            · omega
            · rw [show decide (26 < m9 + 1) = false from decide_eq_false (by omega)] at z; exact c_35 z
          refine lv_iinc (v := nI ((m9 + 1) + 1)) (lv' := [(3, .int (nI ((m9 + 1) + 1))), (0, .int (bI b0)), (1, .ref (ad2 N)), (2, .ref (ad2 (N + 1)))]) hx hb dL_characters_44 hl (k := 3) rfl (nI_add (m9 + 1) 1) (by decide) rfl (fun ls hl => ?_)
          refine lv_goto (tgt := 11) hx hb dL_characters_47 (by decide) ?_
          have hfr9 : ∀ i, i ≠ N → g3 i = g2 i := hf11
          rw [show chB b0 m9 = chB b0 (m9 + 1) from by show _ = if 52 < m9 + 1 ∨ decide (26 < m9 + 1) = b0 then va_up (chB b0 m9) (cd (m9 + 1)) (m9 + 1) else chB b0 m9; rw [if_neg hcc]] at hcl11
          exact ih11 (m9 + 1, g3) ⟨(by omega), hcl11, hfr9⟩ (show 54 - (m9 + 1) < 54 - m9 by omega) _ _ _ hI (lv_sub hl [1, 2, 3, 0] rfl)
        · have hcc : 52 < m9 + 1 ∨ decide (26 < m9 + 1) = b0 := Or.inr (by rw [← c_35]; exact decide_eq_false (by omega))
          have hcdl := cd_lt (m9 + 1) (by omega)
          refine lv_aload_n hx hb dL_characters_38 rfl (lv_at hl 1 rfl) ?_
          refine lv_aload_n hx hb dL_characters_39 rfl (lv_at hl 2 rfl) ?_
          refine lv_iload_n hx hb dL_characters_40 rfl (lv_at hl 3 rfl) ?_
          refine m_iald hx hb hE hI (N + 1) (by omega) (j := m9 + 1) hnw2 (by omega) (by omega) dL_characters_41 ?_
          refine m_top (show (fun j => nI (cd j)) (m9 + 1) = nI (cd (m9 + 1)) from rfl) ?_
          refine lv_iload_n hx hb dL_characters_42 rfl (lv_at hl 3 rfl) ?_
          refine m_iast hx hb hE hI N (by omega) (j := cd (m9 + 1)) hcl11 (by omega) (by omega) dL_characters_43 (fun H locs hI => ?_)
          obtain ⟨g6, hg6⟩ : ∃ zz, zz = va_up g3 N (.inl (k.2.1.1, 32, .inl (upd (fun j => nI (chB b0 m9 j)) (cd (m9 + 1)) (nI (m9 + 1))))) := ⟨_, rfl⟩
          replace hI : mI k ad2 (N + 2) g6 (mA ad N s.heap.size) s H locs := by rw [hg6]; exact hI
          have m_5 : g6 N = .inl (k.2.1.1, 32, .inl (upd (fun j => nI (chB b0 m9 j)) (cd (m9 + 1)) (nI (m9 + 1)))) := by rw [hg6, va_up_self]
          have m_6 : g6 (N + 1) = .inl (k.2.1.1, 55, .inl (fun j => nI (cd j))) := by rw [hg6, va_up_ne _ _ (by omega)]; exact hnw2
          refine lv_iinc (v := nI ((m9 + 1) + 1)) (lv' := [(3, .int (nI ((m9 + 1) + 1))), (0, .int (bI b0)), (1, .ref (ad2 N)), (2, .ref (ad2 (N + 1)))]) hx hb dL_characters_44 hl (k := 3) rfl (nI_add (m9 + 1) 1) (by decide) rfl (fun ls hl => ?_)
          refine lv_goto (tgt := 11) hx hb dL_characters_47 (by decide) ?_
          have hfr9 : ∀ i, i ≠ N → g6 i = g2 i := fun i hi => by rw [hg6, va_up_ne _ _ hi]; exact hf11 i hi
          rw [upd_nI, show va_up (chB b0 m9) (cd (m9 + 1)) (m9 + 1) = chB b0 (m9 + 1) from by show _ = if 52 < m9 + 1 ∨ decide (26 < m9 + 1) = b0 then va_up (chB b0 m9) (cd (m9 + 1)) (m9 + 1) else chB b0 m9; rw [if_pos hcc]] at m_5
          exact ih11 (m9 + 1, g6) ⟨(by omega), m_5, hfr9⟩ (show 54 - (m9 + 1) < 54 - m9 by omega) _ _ _ hI (lv_sub hl [1, 2, 3, 0] rfl)
      · refine lv_iconst (v := nI 1) hx hb dL_characters_29 (by decide) ?_
        refine lv_goto (tgt := 34) hx hb dL_characters_30 (by decide) ?_
        refine m_top (show nI 1 = bI true from rfl) ?_
        refine lv_iload_n hx hb dL_characters_34 rfl (lv_at hl 0 rfl) ?_
        refine m_cneB (tgt := 44) hx hb dL_characters_35 (by decide) (fun c_35 => ?_) (fun c_35 => ?_)
        · have hcc : ¬ (52 < m9 + 1 ∨ decide (26 < m9 + 1) = b0) := fun z => by
            rcases z with z | z
            · omega
            · rw [show decide (26 < m9 + 1) = true from decide_eq_true (by omega)] at z; exact c_35 z
          refine lv_iinc (v := nI ((m9 + 1) + 1)) (lv' := [(3, .int (nI ((m9 + 1) + 1))), (0, .int (bI b0)), (1, .ref (ad2 N)), (2, .ref (ad2 (N + 1)))]) hx hb dL_characters_44 hl (k := 3) rfl (nI_add (m9 + 1) 1) (by decide) rfl (fun ls hl => ?_)
          refine lv_goto (tgt := 11) hx hb dL_characters_47 (by decide) ?_
          have hfr9 : ∀ i, i ≠ N → g3 i = g2 i := hf11
          rw [show chB b0 m9 = chB b0 (m9 + 1) from by show _ = if 52 < m9 + 1 ∨ decide (26 < m9 + 1) = b0 then va_up (chB b0 m9) (cd (m9 + 1)) (m9 + 1) else chB b0 m9; rw [if_neg hcc]] at hcl11
          exact ih11 (m9 + 1, g3) ⟨(by omega), hcl11, hfr9⟩ (show 54 - (m9 + 1) < 54 - m9 by omega) _ _ _ hI (lv_sub hl [1, 2, 3, 0] rfl)
        · have hcc : 52 < m9 + 1 ∨ decide (26 < m9 + 1) = b0 := Or.inr (by rw [← c_35]; exact decide_eq_true (by omega))
          have hcdl := cd_lt (m9 + 1) (by omega)
          refine lv_aload_n hx hb dL_characters_38 rfl (lv_at hl 1 rfl) ?_
          refine lv_aload_n hx hb dL_characters_39 rfl (lv_at hl 2 rfl) ?_
          refine lv_iload_n hx hb dL_characters_40 rfl (lv_at hl 3 rfl) ?_
          refine m_iald hx hb hE hI (N + 1) (by omega) (j := m9 + 1) hnw2 (by omega) (by omega) dL_characters_41 ?_
          refine m_top (show (fun j => nI (cd j)) (m9 + 1) = nI (cd (m9 + 1)) from rfl) ?_
          refine lv_iload_n hx hb dL_characters_42 rfl (lv_at hl 3 rfl) ?_
          refine m_iast hx hb hE hI N (by omega) (j := cd (m9 + 1)) hcl11 (by omega) (by omega) dL_characters_43 (fun H locs hI => ?_)
          obtain ⟨g7, hg7⟩ : ∃ zz, zz = va_up g3 N (.inl (k.2.1.1, 32, .inl (upd (fun j => nI (chB b0 m9 j)) (cd (m9 + 1)) (nI (m9 + 1))))) := ⟨_, rfl⟩
          replace hI : mI k ad2 (N + 2) g7 (mA ad N s.heap.size) s H locs := by rw [hg7]; exact hI
          have m_7 : g7 N = .inl (k.2.1.1, 32, .inl (upd (fun j => nI (chB b0 m9 j)) (cd (m9 + 1)) (nI (m9 + 1)))) := by rw [hg7, va_up_self]
          have m_8 : g7 (N + 1) = .inl (k.2.1.1, 55, .inl (fun j => nI (cd j))) := by rw [hg7, va_up_ne _ _ (by omega)]; exact hnw2
          refine lv_iinc (v := nI ((m9 + 1) + 1)) (lv' := [(3, .int (nI ((m9 + 1) + 1))), (0, .int (bI b0)), (1, .ref (ad2 N)), (2, .ref (ad2 (N + 1)))]) hx hb dL_characters_44 hl (k := 3) rfl (nI_add (m9 + 1) 1) (by decide) rfl (fun ls hl => ?_)
          refine lv_goto (tgt := 11) hx hb dL_characters_47 (by decide) ?_
          have hfr9 : ∀ i, i ≠ N → g7 i = g2 i := fun i hi => by rw [hg7, va_up_ne _ _ hi]; exact hf11 i hi
          rw [upd_nI, show va_up (chB b0 m9) (cd (m9 + 1)) (m9 + 1) = chB b0 (m9 + 1) from by show _ = if 52 < m9 + 1 ∨ decide (26 < m9 + 1) = b0 then va_up (chB b0 m9) (cd (m9 + 1)) (m9 + 1) else chB b0 m9; rw [if_pos hcc]] at m_7
          exact ih11 (m9 + 1, g7) ⟨(by omega), m_7, hfr9⟩ (show 54 - (m9 + 1) < 54 - m9 by omega) _ _ _ hI (lv_sub hl [1, 2, 3, 0] rfl)
set_option maxHeartbeats 8000000 in
set_option maxRecDepth 100000 in
theorem c_X4_after (k : mC) (l : Launch) (ad : Nat → Nat) (N : Nat) (g : Nat → va_E) (sz : Nat) (uns : Bool) (play rd n : Nat) (lat : Nat → Int32) (gar T : Nat → Nat) (came : Nat) (mis lost bel : Int32) (fig : Bool) (u : Nat) (ln : Nat → Nat) (pg : Nat → Nat → Nat) (bs : Nat) (b0 : Bool) (q : Nat) (hq : q < 32) (hS : SR k ad bs N g uns play rd n lat gar T (came, mis, lost, bel, fig, u, ln, pg)) : mCi k l yX4_after wsX4_after { frames := 0, cells := 0, slots := 0, locals := 0 } ad N g sz [.ref (ad 50), .int (bI b0), .int (nI q)] (fun r g1 => r = bI (fb uns q b0) ∧ g1 = g) := by
  show Met l yX4_after wsX4_after { frames := 0, cells := 0, slots := 0, locals := 0 } (mPc k ad N g sz [.ref (ad 50), .int (bI b0), .int (nI q)]) (va_Qi (fun r g1 => r = bI (fb uns q b0) ∧ g1 = g) (mB k ad N) (mA ad N sz)) 0 0 (mA ad N sz)
  refine mOfG (Qc := fun z9 => va_Qi (fun r g1 => r = bI (fb uns q b0) ∧ g1 = g) (mB k ad N) (mA ad N z9)) (cc := cX4_after) (maxL := 3) (ret := (some .boolean)) (by decide) rfl (Nat.le_of_ble_eq_true rfl) ?_
  intro p e s m below meth c hx hb hr hts hown hlocks hml hin H locs hH hE hI ls hl
  have hl : lv_has ls 3 [(0, .ref (ad 50)), (1, .int (bI b0)), (2, .int (nI q))] := hl
  have hbs : 57 ≤ bs := hS.1.1
  have hNu : bs + u ≤ N := hS.1.2
  refine lv_iload_n hx hb dX4_after_0 rfl (lv_at hl 2 rfl) ?_
  refine lv_bipush (v := nI 27) hx hb dX4_after_1 (by decide) ?_
  refine m_ceqN (tgt := 33) hx hb (by omega) (by omega) dX4_after_3 (by decide) (fun c_3 => ?_) (fun c_3 => ?_)
  · refine lv_iconst (v := nI 1) hx hb dX4_after_33 (by decide) ?_
    refine lv_goto (tgt := 38) hx hb dX4_after_34 (by decide) ?_
    refine m_top (y := bI true) (by decide) ?_
    exact m_zret hx hb hr hlocks hI (post := fun r g1 => r = bI (fb uns q b0) ∧ g1 = g) (v := true) (⟨by rw [show fb uns q b0 = true from by first | (simp [fb, stl, *]; done) | (simp_all [fb, stl]; done)], rfl⟩) dX4_after_38
  · refine lv_iload_n hx hb dX4_after_6 rfl (lv_at hl 2 rfl) ?_
    refine lv_bipush (v := nI 31) hx hb dX4_after_7 (by decide) ?_
    refine m_ceqN (tgt := 37) hx hb (by omega) (by omega) dX4_after_9 (by decide) (fun c_9 => ?_) (fun c_9 => ?_)
    · refine lv_iconst (v := nI 0) hx hb dX4_after_37 (by decide) ?_
      refine m_top (y := bI false) (by decide) ?_
      exact m_zret hx hb hr hlocks hI (post := fun r g1 => r = bI (fb uns q b0) ∧ g1 = g) (v := false) (⟨by rw [show fb uns q b0 = false from by first | (simp [fb, stl, *]; done) | (simp_all [fb, stl]; done)], rfl⟩) dX4_after_38
    · refine lv_iload_n hx hb dX4_after_12 rfl (lv_at hl 2 rfl) ?_
      refine lv_iconst (v := nI 2) hx hb dX4_after_13 (by decide) ?_
      refine m_ceqN (tgt := 37) hx hb (by omega) (by omega) dX4_after_14 (by decide) (fun c_14 => ?_) (fun c_14 => ?_)
      · refine lv_iconst (v := nI 0) hx hb dX4_after_37 (by decide) ?_
        refine m_top (y := bI false) (by decide) ?_
        exact m_zret hx hb hr hlocks hI (post := fun r g1 => r = bI (fb uns q b0) ∧ g1 = g) (v := false) (⟨by rw [show fb uns q b0 = false from by first | (simp [fb, stl, *]; done) | (simp_all [fb, stl]; done)], rfl⟩) dX4_after_38
      · refine lv_iload_n hx hb dX4_after_17 rfl (lv_at hl 2 rfl) ?_
        refine lv_iconst (v := nI 4) hx hb dX4_after_18 (by decide) ?_
        refine m_cneN (tgt := 29) hx hb (by omega) (by omega) dX4_after_19 (by decide) (fun c_19 => ?_) (fun c_19 => ?_)
        · refine lv_iload_n hx hb dX4_after_29 rfl (lv_at hl 1 rfl) ?_
          refine m_zeqB (tgt := 37) hx hb dX4_after_30 (by decide) (fun c_30 => ?_) (fun c_30 => ?_)
          · refine lv_iconst (v := nI 0) hx hb dX4_after_37 (by decide) ?_
            refine m_top (y := bI false) (by decide) ?_
            exact m_zret hx hb hr hlocks hI (post := fun r g1 => r = bI (fb uns q b0) ∧ g1 = g) (v := false) (⟨by rw [show fb uns q b0 = false from by first | (simp [fb, stl, *]; done) | (simp_all [fb, stl]; done)], rfl⟩) dX4_after_38
          · refine lv_iconst (v := nI 1) hx hb dX4_after_33 (by decide) ?_
            refine lv_goto (tgt := 38) hx hb dX4_after_34 (by decide) ?_
            refine m_top (y := bI true) (by decide) ?_
            exact m_zret hx hb hr hlocks hI (post := fun r g1 => r = bI (fb uns q b0) ∧ g1 = g) (v := true) (⟨by rw [show fb uns q b0 = true from by first | (simp [fb, stl, *]; done) | (simp_all [fb, stl]; done)], rfl⟩) dX4_after_38
        · refine lv_aload_n hx hb dX4_after_22 rfl (lv_at hl 0 rfl) ?_
          refine m_get (ci := 4) (C := RX4) (T := TX4) (N' := 14) hx hb hts (by decide +kernel) hown hE hI 50 (by omega) (show g 50 = .inr (4, [.ref (ad 51), .ref (ad 52), .ref (ad 53), .int (bI fig), .int (bI uns), .int (nI play), .ref (ad 54), .ref (ad 55), .ref (ad 56), .int (nI rd), .int (nI came), .int mis, .int lost, .int bel]) from hS.2.1) rfl 4 (by decide) (hts (.fieldLink RX4 40 "TapePrinterLaw$Sim" "unshifts" "Z") (by decide +kernel)) rfl dX4_after_23 ?_
          refine m_zneB (tgt := 37) hx hb dX4_after_26 (by decide) (fun c_26 => ?_) (fun c_26 => ?_)
          · refine lv_iconst (v := nI 0) hx hb dX4_after_37 (by decide) ?_
            refine m_top (y := bI false) (by decide) ?_
            exact m_zret hx hb hr hlocks hI (post := fun r g1 => r = bI (fb uns q b0) ∧ g1 = g) (v := false) (⟨by rw [show fb uns q b0 = false from by first | (simp [fb, stl, *]; done) | (simp_all [fb, stl]; done)], rfl⟩) dX4_after_38
          · refine lv_iload_n hx hb dX4_after_29 rfl (lv_at hl 1 rfl) ?_
            refine m_zeqB (tgt := 37) hx hb dX4_after_30 (by decide) (fun c_30 => ?_) (fun c_30 => ?_)
            · refine lv_iconst (v := nI 0) hx hb dX4_after_37 (by decide) ?_
              refine m_top (y := bI false) (by decide) ?_
              exact m_zret hx hb hr hlocks hI (post := fun r g1 => r = bI (fb uns q b0) ∧ g1 = g) (v := false) (⟨by rw [show fb uns q b0 = false from by first | (simp [fb, stl, *]; done) | (simp_all [fb, stl]; done)], rfl⟩) dX4_after_38
            · refine lv_iconst (v := nI 1) hx hb dX4_after_33 (by decide) ?_
              refine lv_goto (tgt := 38) hx hb dX4_after_34 (by decide) ?_
              refine m_top (y := bI true) (by decide) ?_
              exact m_zret hx hb hr hlocks hI (post := fun r g1 => r = bI (fb uns q b0) ∧ g1 = g) (v := true) (⟨by rw [show fb uns q b0 = true from by first | (simp [fb, stl, *]; done) | (simp_all [fb, stl]; done)], rfl⟩) dX4_after_38
theorem sh_zero {uns : Bool} {T : Nat → Nat} : (fun _ : Nat => nI 0) = fun j => if j ≤ 0 then bI (fa uns T j) else nI 0 := by
  funext j
  by_cases hj : j ≤ 0
  · rw [if_pos hj, show j = 0 by omega]; rfl
  · rw [if_neg hj]
theorem sh_up {uns : Bool} {T : Nat → Nat} (q : Nat) : upd (fun j => if j ≤ q then bI (fa uns T j) else nI 0) (q + 1) (bI (fb uns (T q) (fa uns T q))) = fun j => if j ≤ q + 1 then bI (fa uns T j) else nI 0 := by
  funext j
  unfold upd
  by_cases e1 : j = q + 1
  · subst e1; rw [if_pos rfl, if_pos (Nat.le_refl _)]; rfl
  · rw [if_neg e1]
    show (if j ≤ q then bI (fa uns T j) else nI 0) = _
    by_cases e2 : j ≤ q
    · rw [if_pos e2, if_pos (by omega)]
    · rw [if_neg e2, if_neg (by omega)]
set_option maxHeartbeats 8000000 in
set_option maxRecDepth 100000 in
theorem c_X4_shifts (k : mC) (l : Launch) (ad : Nat → Nat) (N : Nat) (g : Nat → va_E) (sz : Nat) (uns : Bool) (play rd n : Nat) (lat : Nat → Int32) (gar T : Nat → Nat) (came : Nat) (mis lost bel : Int32) (fig : Bool) (u : Nat) (ln : Nat → Nat) (pg : Nat → Nat → Nat) (bs : Nat)  (hn : n ≤ 200) (hT : ∀ j, T j < 32) (hS : SR k ad bs N g uns play rd n lat gar T (came, mis, lost, bel, fig, u, ln, pg)) : mGq k l yX4_shifts wsX4_shifts { frames := 1, cells := 1, slots := n + 1, locals := 22 } ad N g sz 1 (n + 1) [.ref (ad 50)] (mMk ad N g (.inl (k.2.1.2.2.1, n + 1, .inl (fun j => bI (fa uns T j))))) := by
  show Met l yX4_shifts wsX4_shifts { frames := 1, cells := 1, slots := n + 1, locals := 22 } (mPc k ad N g sz [.ref (ad 50)]) (va_Qq (S := mU) (fun r w9 => (mMk ad N g (.inl (k.2.1.2.2.1, n + 1, .inl (fun j => bI (fa uns T j))))) r w9.1 w9.2.1 w9.2.2) (mBg k (mA ad N sz)) (mA ad N sz)) 1 (n + 1) (mA ad N sz)
  refine mOfG (Qc := fun z9 => va_Qq (S := mU) (fun r w9 => (mMk ad N g (.inl (k.2.1.2.2.1, n + 1, .inl (fun j => bI (fa uns T j))))) r w9.1 w9.2.1 w9.2.2) (mBg k (mA ad N z9)) (mA ad N z9)) (cc := cX4_shifts) (maxL := 3) (ret := (some (.array .boolean))) (by decide) rfl (Nat.le_of_ble_eq_true rfl) ?_
  intro p e s m below meth c hx hb hr hts hown hlocks hml hin H locs hH hE hI ls hl
  have hl : lv_has ls 3 [(0, .ref (ad 50))] := hl
  have hbs : 57 ≤ bs := hS.1.1
  have hNu : bs + u ≤ N := hS.1.2
  refine lv_aload_n hx hb dX4_shifts_0 rfl (lv_at hl 0 rfl) ?_
  refine m_get (ci := 4) (C := RX4) (T := TX4) (N' := 14) hx hb hts (by decide +kernel) hown hE hI 50 (by omega) (show g 50 = .inr (4, [.ref (ad 51), .ref (ad 52), .ref (ad 53), .int (bI fig), .int (bI uns), .int (nI play), .ref (ad 54), .ref (ad 55), .ref (ad 56), .int (nI rd), .int (nI came), .int mis, .int lost, .int bel]) from hS.2.1) rfl 8 (by decide) (hts (.fieldLink RX4 33 "TapePrinterLaw$Sim" "tape" "[I") (by decide +kernel)) rfl dX4_shifts_1 ?_
  refine m_aleni hx hb hE hI 56 (by omega) (show g 56 = .inl (k.2.1.1, n, .inl (fun j => nI (T j))) from hS.2.2.2.2.2.2.2.1) dX4_shifts_4 ?_
  refine lv_iconst (v := nI 1) hx hb dX4_shifts_5 (by decide) ?_
  refine m_iaddN hx hb dX4_shifts_6 ?_
  refine m_newz (n := n + 1) (c1 := 1) (s1 := (n + 1)) hx hb (hts (.arrayClass .boolean) (by decide +kernel)) hE hI (by omega) (by omega) (by omega) (by show _ ≤ 1; omega) (by show _ ≤ n + 1; omega) dX4_shifts_7 (fun ad1 H hag1 hE hI => ?_)
  obtain ⟨g1, hg1⟩ : ∃ zz, zz = va_up g N (.inl (k.2.1.2.2.1, (n + 1), .inl (fun _ => nI 0))) := ⟨_, rfl⟩
  have hE : mE k ad1 (N + 1) (mA ad N s.heap.size) s := hE
  replace hI : mI k ad1 (N + 1) g1 (mA ad N s.heap.size) s H locs := by rw [hg1]; exact hI
  have hgg1 : ∀ i, i < N → g1 i = g i := fun i hi => by rw [hg1, va_up_ne _ _ (by omega)]
  have hS : SR k ad1 bs (N + 1) g1 uns play rd n lat gar T (came, mis, lost, bel, fig, u, ln, pg) := SR.grow hS (by omega) (fun i hi => hag1 i (by omega)) (fun i hi => hgg1 i (by omega))
  have hl : lv_has ls 3 [(0, .ref (ad1 50))] := by rw [hag1 50 (by omega)]; exact hl
  have hnw1 : g1 N = .inl (k.2.1.2.2.1, (n + 1), .inl (fun _ => nI 0)) := by rw [hg1, va_up_self]
  refine lv_astore_n (lv' := [(1, .ref (ad1 N)), (0, .ref (ad1 50))]) hx hb dX4_shifts_9 rfl hl (by decide) rfl (fun ls hl => ?_)
  rw [sh_zero (uns := uns) (T := T)] at hnw1
  refine lv_iconst (v := nI 0) hx hb dX4_shifts_10 (by decide) ?_
  refine lv_istore_n (lv' := [(2, .int (nI 0)), (1, .ref (ad1 N)), (0, .ref (ad1 50))]) hx hb dX4_shifts_11 rfl hl (by decide) rfl (fun ls hl => ?_)
  refine m_loop (σ := Nat × (Nat → va_E)) (fun ⟨q, gi⟩ => (q ≤ n) ∧ gi N = .inl (k.2.1.2.2.1, (n + 1), .inl (fun j => if j ≤ q then bI (fa uns T j) else nI 0)) ∧ ∀ i, i ≠ N → gi i = g1 i) (fun ⟨q, gi⟩ => n - q) (fun ⟨q, gi⟩ => gi) (fun ⟨q, gi⟩ => [(0, .ref (ad1 50)), (1, .ref (ad1 N)), (2, .int (nI q))]) (nL := 3) (0, g1) ⟨Nat.zero_le _, hnw1, fun _ _ => rfl⟩ hI (lv_sub hl [2, 1, 0] rfl) ?_
  rintro ⟨q, g2⟩ ⟨hq9, hcl12, hf12⟩ ih12 H locs ls hI hl
  have hI : mI k ad1 (N + 1) g2 (mA ad N s.heap.size) s H locs := hI
  have hl : lv_has ls 3 [(0, .ref (ad1 50)), (1, .ref (ad1 N)), (2, .int (nI q))] := hl
  have hcl12 : g2 N = .inl (k.2.1.2.2.1, (n + 1), .inl (fun j => if j ≤ q then bI (fa uns T j) else nI 0)) := hcl12
  have hf12 : ∀ i, i ≠ N → g2 i = g1 i := hf12
  have hS : SR k ad1 bs (N + 1) g2 uns play rd n lat gar T (came, mis, lost, bel, fig, u, ln, pg) := SR.mid hS (fun i hi => hf12 i (by omega))
  have hTq := hT q
  refine lv_iload_n hx hb dX4_shifts_12 rfl (lv_at hl 2 rfl) ?_
  refine lv_aload_n hx hb dX4_shifts_13 rfl (lv_at hl 0 rfl) ?_
  refine m_get (ci := 4) (C := RX4) (T := TX4) (N' := 14) hx hb hts (by decide +kernel) hown hE hI 50 (by omega) (show g2 50 = .inr (4, [.ref (ad1 51), .ref (ad1 52), .ref (ad1 53), .int (bI fig), .int (bI uns), .int (nI play), .ref (ad1 54), .ref (ad1 55), .ref (ad1 56), .int (nI rd), .int (nI came), .int mis, .int lost, .int bel]) from hS.2.1) rfl 8 (by decide) (hts (.fieldLink RX4 33 "TapePrinterLaw$Sim" "tape" "[I") (by decide +kernel)) rfl dX4_shifts_14 ?_
  refine m_aleni hx hb hE hI 56 (by omega) (show g2 56 = .inl (k.2.1.1, n, .inl (fun j => nI (T j))) from hS.2.2.2.2.2.2.2.1) dX4_shifts_17 ?_
  refine m_cgeN (tgt := 45) hx hb (by omega) (by omega) dX4_shifts_18 (by decide) (fun c_18 => ?_) (fun c_18 => ?_)
  · refine lv_aload_n hx hb dX4_shifts_45 rfl (lv_at hl 1 rfl) ?_
    have hqn : q = n := by omega
    replace hI := m_fni hI N (by omega) (fun j => bI (fa uns T j)) hcl12 (fun j hj => if_pos (by omega))
    obtain ⟨g3, hg3⟩ : ∃ zz, zz = va_up g2 N (.inl (k.2.1.2.2.1, (n + 1), .inl (fun j => bI (fa uns T j)))) := ⟨_, rfl⟩
    replace hI : mI k ad1 (N + 1) g3 (mA ad N s.heap.size) s H locs := by rw [hg3]; exact hI
    have hS : SR k ad1 bs (N + 1) g3 uns play rd n lat gar T (came, mis, lost, bel, fig, u, ln, pg) := by rw [hg3]; exact SR.off hS (by omega)
    have hcl12 : g3 N = .inl (k.2.1.2.2.1, (n + 1), .inl (fun j => bI (fa uns T j))) := by rw [hg3, va_up_self]
    have hfr0 : ∀ i, i < N → g3 i = g i := fun i hi => by rw [hg3, va_up_ne _ _ (by omega), hf12 i (by omega), hgg1 i hi]
    exact m_gqret hx hb hr (Or.inr ⟨_, rfl⟩) hlocks hE hI (post := mMk ad N g (.inl (k.2.1.2.2.1, n + 1, .inl (fun j => bI (fa uns T j))))) (v := ad1 N) (⟨rfl, rfl, hag1, hfr0, hcl12⟩) (by omega) (by omega) dX4_shifts_46
  · refine lv_aload_n hx hb dX4_shifts_21 rfl (lv_at hl 1 rfl) ?_
    refine lv_iload_n hx hb dX4_shifts_22 rfl (lv_at hl 2 rfl) ?_
    refine lv_iconst (v := nI 1) hx hb dX4_shifts_23 (by decide) ?_
    refine m_iaddN hx hb dX4_shifts_24 ?_
    refine lv_aload_n hx hb dX4_shifts_25 rfl (lv_at hl 0 rfl) ?_
    refine lv_aload_n hx hb dX4_shifts_26 rfl (lv_at hl 1 rfl) ?_
    refine lv_iload_n hx hb dX4_shifts_27 rfl (lv_at hl 2 rfl) ?_
    refine m_zald hx hb hE hI N (by omega) (j := q) hcl12 (by omega) (by omega) dX4_shifts_28 ?_
    refine m_top (show (fun j => if j ≤ q then bI (fa uns T j) else nI 0) q = bI (fa uns T q) from if_pos (Nat.le_refl _)) ?_
    refine lv_aload_n hx hb dX4_shifts_29 rfl (lv_at hl 0 rfl) ?_
    refine m_get (ci := 4) (C := RX4) (T := TX4) (N' := 14) hx hb hts (by decide +kernel) hown hE hI 50 (by omega) (show g2 50 = .inr (4, [.ref (ad1 51), .ref (ad1 52), .ref (ad1 53), .int (bI fig), .int (bI uns), .int (nI play), .ref (ad1 54), .ref (ad1 55), .ref (ad1 56), .int (nI rd), .int (nI came), .int mis, .int lost, .int bel]) from hS.2.1) rfl 8 (by decide) (hts (.fieldLink RX4 33 "TapePrinterLaw$Sim" "tape" "[I") (by decide +kernel)) rfl dX4_shifts_30 ?_
    refine lv_iload_n hx hb dX4_shifts_33 rfl (lv_at hl 2 rfl) ?_
    refine m_iald hx hb hE hI 56 (by omega) (j := q) (show g2 56 = .inl (k.2.1.1, n, .inl (fun j => nI (T j))) from hS.2.2.2.2.2.2.2.1) (by omega) (by omega) dX4_shifts_34 ?_
    refine m_top (show (fun j => nI (T j)) q = nI (T q) from rfl) ?_
    have ht_1 := hT q
    refine m_callVi (As := [.int (bI (fa uns T q)), .int (nI (T q))]) (rest := [.int (nI (q + 1)), .ref (ad1 N)]) ⟨hx, hb, hml, hown, hts⟩ hE hI (c_X4_after k l ad1 (N + 1) g2 _ uns play rd n lat gar T came mis lost bel fig u ln pg bs (fa uns T q) (T q) (by omega) hS) (cwV 2 hts gX4_shifts_X4_after rfl rfl rfl (by decide +kernel) ⟨Nat.le_of_ble_eq_true rfl, Nat.le_of_ble_eq_true rfl⟩) (i := 50) (by omega) (show g2 50 = .inr (4, [.ref (ad1 51), .ref (ad1 52), .ref (ad1 53), .int (bI fig), .int (bI uns), .int (nI play), .ref (ad1 54), .ref (ad1 55), .ref (ad1 56), .int (nI rd), .int (nI came), .int mis, .int lost, .int bel]) from hS.2.1) rfl rfl hl.1 rfl (Nat.le_of_ble_eq_true rfl) dX4_shifts_35 ⟨(by show _ ≤ 1; omega), (by show _ ≤ n + 1; omega)⟩ (m_deti (fun H locs hI => ?_))
    refine m_zast hx hb hE hI N (by omega) (j := q + 1) (b9 := fb uns (T q) (fa uns T q)) hcl12 (by omega) (by omega) dX4_shifts_38 (fun H locs hI => ?_)
    obtain ⟨g4, hg4⟩ : ∃ zz, zz = va_up g2 N (.inl (k.2.1.2.2.1, (n + 1), .inl (upd (fun j => if j ≤ q then bI (fa uns T j) else nI 0) (q + 1) (bI (fb uns (T q) (fa uns T q)))))) := ⟨_, rfl⟩
    replace hI : mI k ad1 (N + 1) g4 (mA ad N s.heap.size) s H locs := by rw [hg4]; exact hI
    have hS : SR k ad1 bs (N + 1) g4 uns play rd n lat gar T (came, mis, lost, bel, fig, u, ln, pg) := by rw [hg4]; exact SR.off hS (by omega)
    have hcl12 : g4 N = .inl (k.2.1.2.2.1, (n + 1), .inl (upd (fun j => if j ≤ q then bI (fa uns T j) else nI 0) (q + 1) (bI (fb uns (T q) (fa uns T q))))) := by rw [hg4, va_up_self]
    refine lv_iinc (v := nI (q + 1)) (lv' := [(2, .int (nI (q + 1))), (0, .ref (ad1 50)), (1, .ref (ad1 N))]) hx hb dX4_shifts_39 hl (k := 2) rfl (nI_add q 1) (by decide) rfl (fun ls hl => ?_)
    refine lv_goto (tgt := 12) hx hb dX4_shifts_42 (by decide) ?_
    have hfr9 : ∀ i, i ≠ N → g4 i = g1 i := fun i hi => by rw [hg4, va_up_ne _ _ hi]; exact hf12 i hi
    rw [show upd (fun j => if j ≤ q then bI (fa uns T j) else nI 0) (q + 1) (bI (fb uns (T q) (fa uns T q))) = fun j => if j ≤ q + 1 then bI (fa uns T j) else nI 0 from sh_up q] at hcl12
    exact ih12 (q + 1, g4) ⟨(by omega), hcl12, hfr9⟩ (show n - (q + 1) < n - q by omega) _ _ _ hI (lv_sub hl [1, 2, 0] rfl)
set_option maxHeartbeats 8000000 in
set_option maxRecDepth 100000 in
theorem c_X4_read (k : mC) (l : Launch) (ad : Nat → Nat) (N : Nat) (g : Nat → va_E) (sz : Nat) (uns : Bool) (play rd n : Nat) (lat : Nat → Int32) (gar T : Nat → Nat) (came : Nat) (mis lost bel : Int32) (fig : Bool) (u : Nat) (ln : Nat → Nat) (pg : Nat → Nat → Nat) (bs : Nat) (co : Nat) (hp : play ≤ 9) (hlat : ∀ j, -9 ≤ lat j ∧ lat j ≤ 9) (hgar : ∀ j, j < 16 → gar j < 32) (hco : co < 32) (hcame : came < 2000000000) (hS : SR k ad bs N g uns play rd n lat gar T (came, mis, lost, bel, fig, u, ln, pg)) : mRi k l yX4_read wsX4_read { frames := 0, cells := 1, slots := 5, locals := 0 } ad N g sz 1 5 [.ref (ad 50), .int (nI co), .int (nI came)] (fun r g1 => r = nI (rdY play lat gar came co) ∧ g1 = g) := by
  show Met l yX4_read wsX4_read { frames := 0, cells := 1, slots := 5, locals := 0 } (mPc k ad N g sz [.ref (ad 50), .int (nI co), .int (nI came)]) (va_Qi (fun r g1 => r = nI (rdY play lat gar came co) ∧ g1 = g) (mB k ad N) (mA ad N sz)) 1 5 (mA ad N sz)
  refine mOfG (Qc := fun z9 => va_Qi (fun r g1 => r = nI (rdY play lat gar came co) ∧ g1 = g) (mB k ad N) (mA ad N z9)) (cc := cX4_read) (maxL := 8) (ret := (some .int)) (by decide) rfl (Nat.le_of_ble_eq_true rfl) ?_
  intro p e s m below meth c hx hb hr hts hown hlocks hml hin H locs hH hE hI ls hl
  have hl : lv_has ls 8 [(0, .ref (ad 50)), (1, .int (nI co)), (2, .int (nI came))] := hl
  have hbs : 57 ≤ bs := hS.1.1
  have hNu : bs + u ≤ N := hS.1.2
  have hg16 := hgar (came % 16) (Nat.mod_lt _ (by omega))
  refine lv_iconst (v := nI 5) hx hb dX4_read_0 (by decide) ?_
  refine m_newz (n := 5) (c1 := 1) (s1 := 5) hx hb (hts (.arrayClass .boolean) (by decide +kernel)) hE hI (by omega) (by omega) (by omega) (by show _ ≤ 1; omega) (by show _ ≤ 5; omega) dX4_read_1 (fun ad1 H hag1 hE hI => ?_)
  obtain ⟨g1, hg1⟩ : ∃ zz, zz = va_up g N (.inl (k.2.1.2.2.1, 5, .inl (fun _ => nI 0))) := ⟨_, rfl⟩
  have hE : mE k ad1 (N + 1) (mA ad N s.heap.size) s := hE
  replace hI : mI k ad1 (N + 1) g1 (mA ad N s.heap.size) s H locs := by rw [hg1]; exact hI
  have hgg1 : ∀ i, i < N → g1 i = g i := fun i hi => by rw [hg1, va_up_ne _ _ (by omega)]
  have hS : SR k ad1 bs (N + 1) g1 uns play rd n lat gar T (came, mis, lost, bel, fig, u, ln, pg) := SR.grow hS (by omega) (fun i hi => hag1 i (by omega)) (fun i hi => hgg1 i (by omega))
  have hl : lv_has ls 8 [(0, .ref (ad1 50)), (1, .int (nI co)), (2, .int (nI came))] := by rw [hag1 50 (by omega)]; exact hl
  have hnw1 : g1 N = .inl (k.2.1.2.2.1, 5, .inl (fun _ => nI 0)) := by rw [hg1, va_up_self]
  rw [show (fun _ : Nat => nI 0) = fun j => if j < 0 then bI (ub co (gar (came % 16)) j) else nI 0 from funext fun j => (if_neg (Nat.not_lt_zero j)).symm] at hnw1
  refine lv_astore_n (lv' := [(3, .ref (ad1 N)), (0, .ref (ad1 50)), (1, .int (nI co)), (2, .int (nI came))]) hx hb dX4_read_3 rfl hl (by decide) rfl (fun ls hl => ?_)
  refine lv_iload_n hx hb dX4_read_4 rfl (lv_at hl 3 rfl) ?_
  refine lv_bipush (v := nI 16) hx hb dX4_read_5 (by decide) ?_
  refine m_iremN hx hb (by omega) (by omega) (by omega) dX4_read_7 ?_
  refine lv_istore (lv' := [(4, .int (nI (came % 16))), (3, .ref (ad1 N)), (0, .ref (ad1 50)), (1, .int (nI co)), (2, .int (nI came))]) hx hb dX4_read_8 hl (by decide) rfl (fun ls hl => ?_)
  refine lv_iconst (v := nI 0) hx hb dX4_read_10 (by decide) ?_
  refine lv_istore (lv' := [(5, .int (nI 0)), (4, .int (nI (came % 16))), (3, .ref (ad1 N)), (0, .ref (ad1 50)), (1, .int (nI co)), (2, .int (nI came))]) hx hb dX4_read_11 hl (by decide) rfl (fun ls hl => ?_)
  refine m_loop (σ := Nat × (Nat → va_E)) (fun ⟨q, gi⟩ => (q ≤ 5) ∧ gi N = .inl (k.2.1.2.2.1, 5, .inl (fun j => if j < q then bI (ub co (gar (came % 16)) j) else nI 0)) ∧ ∀ i, i ≠ N → gi i = g1 i) (fun ⟨q, gi⟩ => 5 - q) (fun ⟨q, gi⟩ => gi) (fun ⟨q, gi⟩ => [(0, .ref (ad1 50)), (1, .int (nI co)), (3, .ref (ad1 N)), (4, .int (nI (came % 16))), (5, .int (nI q))]) (nL := 8) (0, g1) ⟨Nat.zero_le _, hnw1, fun _ _ => rfl⟩ hI (lv_sub hl [3, 4, 2, 1, 0] rfl) ?_
  rintro ⟨q, g2⟩ ⟨hq9, hcl13, hf13⟩ ih13 H locs ls hI hl
  have hI : mI k ad1 (N + 1) g2 (mA ad N s.heap.size) s H locs := hI
  have hl : lv_has ls 8 [(0, .ref (ad1 50)), (1, .int (nI co)), (3, .ref (ad1 N)), (4, .int (nI (came % 16))), (5, .int (nI q))] := hl
  have hcl13 : g2 N = .inl (k.2.1.2.2.1, 5, .inl (fun j => if j < q then bI (ub co (gar (came % 16)) j) else nI 0)) := hcl13
  have hf13 : ∀ i, i ≠ N → g2 i = g1 i := hf13
  have hS : SR k ad1 bs (N + 1) g2 uns play rd n lat gar T (came, mis, lost, bel, fig, u, ln, pg) := SR.mid hS (fun i hi => hf13 i (by omega))
  refine lv_iload hx hb dX4_read_13 (lv_at hl 4 rfl) ?_
  refine lv_iconst (v := nI 5) hx hb dX4_read_15 (by decide) ?_
  refine m_cgeN (tgt := 55) hx hb (by omega) (by omega) dX4_read_16 (by decide) (fun c_16 => ?_) (fun c_16 => ?_)
  · replace hI := m_fni hI N (by omega) (fun j => bI (ub co (gar (came % 16)) j)) hcl13 (fun j hj => if_pos (by omega))
    obtain ⟨g3, hg3⟩ : ∃ zz, zz = va_up g2 N (.inl (k.2.1.2.2.1, 5, .inl (fun j => bI (ub co (gar (came % 16)) j)))) := ⟨_, rfl⟩
    replace hI : mI k ad1 (N + 1) g3 (mA ad N s.heap.size) s H locs := by rw [hg3]; exact hI
    have hS : SR k ad1 bs (N + 1) g3 uns play rd n lat gar T (came, mis, lost, bel, fig, u, ln, pg) := by rw [hg3]; exact SR.off hS (by omega)
    have hcl13 : g3 N = .inl (k.2.1.2.2.1, 5, .inl (fun j => bI (ub co (gar (came % 16)) j))) := by rw [hg3, va_up_self]
    refine lv_iconst (v := nI 0) hx hb dX4_read_55 (by decide) ?_
    refine lv_istore (lv' := [(5, .int (nI 0)), (0, .ref (ad1 50)), (1, .int (nI co)), (3, .ref (ad1 N)), (4, .int (nI (came % 16)))]) hx hb dX4_read_56 hl (by decide) rfl (fun ls hl => ?_)
    refine lv_iconst (v := nI 0) hx hb dX4_read_58 (by decide) ?_
    refine lv_istore (lv' := [(6, .int (nI 0)), (5, .int (nI 0)), (0, .ref (ad1 50)), (1, .int (nI co)), (3, .ref (ad1 N)), (4, .int (nI (came % 16)))]) hx hb dX4_read_59 hl (by decide) rfl (fun ls hl => ?_)
    refine m_loop (σ := Nat) (fun q2 => q2 ≤ 5) (fun q2 => 5 - q2) (fun q2 => g3) (fun q2 => [(0, .ref (ad1 50)), (1, .int (nI co)), (3, .ref (ad1 N)), (4, .int (nI (came % 16))), (5, .int (nI (rA play (lat (came % 16)) co (gar (came % 16)) q2))), (6, .int (nI q2))]) (nL := 8) 0 (Nat.zero_le _) hI (lv_sub hl [2, 3, 4, 5, 1, 0] rfl) ?_
    rintro q2 hq2 ih61 H locs ls hI hl
    have hI : mI k ad1 (N + 1) g3 (mA ad N s.heap.size) s H locs := hI
    have hl : lv_has ls 8 [(0, .ref (ad1 50)), (1, .int (nI co)), (3, .ref (ad1 N)), (4, .int (nI (came % 16))), (5, .int (nI (rA play (lat (came % 16)) co (gar (came % 16)) q2))), (6, .int (nI q2))] := hl
    have hrl := rA_lt play (lat (came % 16)) co (gar (came % 16)) q2
    have hp32 : 2 ^ q2 ≤ 2 ^ 5 := Nat.pow_le_pow_right (by omega) hq2
    refine lv_iload hx hb dX4_read_61 (lv_at hl 5 rfl) ?_
    refine lv_iconst (v := nI 5) hx hb dX4_read_63 (by decide) ?_
    refine m_cgeN (tgt := 172) hx hb (by omega) (by omega) dX4_read_64 (by decide) (fun c_64 => ?_) (fun c_64 => ?_)
    · refine lv_iload hx hb dX4_read_172 (lv_at hl 4 rfl) ?_
      have hq5 : q2 = 5 := by omega
      have hfr0 : ∀ i, i < N → g3 i = g i := fun i hi => by rw [hg3, va_up_ne _ _ (by omega), hf13 i (by omega), hgg1 i hi]
      obtain ⟨hE, hI⟩ := m_drop (N := N) (ad := ad) (g := g) hE hI (by omega) hag1 hfr0
      exact m_riret hx hb hr hlocks hI (post := fun r g1 => r = nI (rdY play lat gar came co) ∧ g1 = g) (v := nI (rA play (lat (came % 16)) co (gar (came % 16)) q2)) (⟨by rw [hq5, rA_rdF hp (hlat _) hco (hgar _ (Nat.mod_lt _ (by omega)))] <;> rfl, rfl⟩) (by omega) (by omega) dX4_read_174
    · refine m_via hI 146 ([.int (bI (rI play (lat (came % 16)) co (gar (came % 16)) q2))]) (fun K => ?_) (fun H locs hI => ?_)
      · refine lv_aload_n hx hb dX4_read_67 rfl (lv_at hl 0 rfl) ?_
        refine m_get (ci := 4) (C := RX4) (T := TX4) (N' := 14) hx hb hts (by decide +kernel) hown hE hI 50 (by omega) (show g3 50 = .inr (4, [.ref (ad1 51), .ref (ad1 52), .ref (ad1 53), .int (bI fig), .int (bI uns), .int (nI play), .ref (ad1 54), .ref (ad1 55), .ref (ad1 56), .int (nI rd), .int (nI came), .int mis, .int lost, .int bel]) from hS.2.1) rfl 6 (by decide) (hts (.fieldLink RX4 27 "TapePrinterLaw$Sim" "late" "[I") (by decide +kernel)) rfl dX4_read_68 ?_
        refine lv_iload hx hb dX4_read_71 (lv_at hl 3 rfl) ?_
        refine m_iald hx hb hE hI 54 (by omega) (j := came % 16) (show g3 54 = .inl (k.2.1.1, 16, .inl lat) from hS.2.2.2.2.2.1) (by omega) (by omega) dX4_read_73 ?_
        refine lv_aload_n hx hb dX4_read_74 rfl (lv_at hl 0 rfl) ?_
        refine m_get (ci := 4) (C := RX4) (T := TX4) (N' := 14) hx hb hts (by decide +kernel) hown hE hI 50 (by omega) (show g3 50 = .inr (4, [.ref (ad1 51), .ref (ad1 52), .ref (ad1 53), .int (bI fig), .int (bI uns), .int (nI play), .ref (ad1 54), .ref (ad1 55), .ref (ad1 56), .int (nI rd), .int (nI came), .int mis, .int lost, .int bel]) from hS.2.1) rfl 5 (by decide) (hts (.fieldLink RX4 36 "TapePrinterLaw$Sim" "play" "I") (by decide +kernel)) rfl dX4_read_75 ?_
        refine lv_icmp_le (tgt := 104) hx hb dX4_read_78 (by decide) (fun c_78 => ?_) (fun c_78 => ?_)
        · refine lv_aload_n hx hb dX4_read_104 rfl (lv_at hl 0 rfl) ?_
          refine m_get (ci := 4) (C := RX4) (T := TX4) (N' := 14) hx hb hts (by decide +kernel) hown hE hI 50 (by omega) (show g3 50 = .inr (4, [.ref (ad1 51), .ref (ad1 52), .ref (ad1 53), .int (bI fig), .int (bI uns), .int (nI play), .ref (ad1 54), .ref (ad1 55), .ref (ad1 56), .int (nI rd), .int (nI came), .int mis, .int lost, .int bel]) from hS.2.1) rfl 6 (by decide) (hts (.fieldLink RX4 27 "TapePrinterLaw$Sim" "late" "[I") (by decide +kernel)) rfl dX4_read_105 ?_
          refine lv_iload hx hb dX4_read_108 (lv_at hl 3 rfl) ?_
          refine m_iald hx hb hE hI 54 (by omega) (j := came % 16) (show g3 54 = .inl (k.2.1.1, 16, .inl lat) from hS.2.2.2.2.2.1) (by omega) (by omega) dX4_read_110 ?_
          refine lv_iconst (v := nI 0) hx hb dX4_read_111 (by decide) ?_
          refine lv_aload_n hx hb dX4_read_112 rfl (lv_at hl 0 rfl) ?_
          refine m_get (ci := 4) (C := RX4) (T := TX4) (N' := 14) hx hb hts (by decide +kernel) hown hE hI 50 (by omega) (show g3 50 = .inr (4, [.ref (ad1 51), .ref (ad1 52), .ref (ad1 53), .int (bI fig), .int (bI uns), .int (nI play), .ref (ad1 54), .ref (ad1 55), .ref (ad1 56), .int (nI rd), .int (nI came), .int mis, .int lost, .int bel]) from hS.2.1) rfl 5 (by decide) (hts (.fieldLink RX4 36 "TapePrinterLaw$Sim" "play" "I") (by decide +kernel)) rfl dX4_read_113 ?_
          refine lv_isub hx hb dX4_read_116 ?_
          refine lv_icmp_ge (tgt := 142) hx hb dX4_read_117 (by decide) (fun c_117 => ?_) (fun c_117 => ?_)
          · refine lv_aload_n hx hb dX4_read_142 rfl (lv_at hl 2 rfl) ?_
            refine lv_iload hx hb dX4_read_143 (lv_at hl 5 rfl) ?_
            refine m_zald hx hb hE hI N (by omega) (j := q2) hcl13 (by omega) (by omega) dX4_read_145 ?_
            refine m_top (show (fun j => bI (ub co (gar (came % 16)) j)) q2 = bI (ub co (gar (came % 16)) q2) from rfl) ?_
            refine m_top (show bI (ub co (gar (came % 16)) q2) = bI (rI play (lat (came % 16)) co (gar (came % 16)) q2) from by rw [show rI play (lat (came % 16)) co (gar (came % 16)) q2 = ub co (gar (came % 16)) q2 from by unfold rI; rw [if_pos c_78, if_pos c_117]]) ?_
            exact K H locs hI
          · refine lv_iload hx hb dX4_read_120 (lv_at hl 5 rfl) ?_
            refine m_zeqN (tgt := 134) hx hb (by omega) dX4_read_122 (by decide) (fun c_122 => ?_) (fun c_122 => ?_)
            · refine lv_iconst (v := nI 1) hx hb dX4_read_134 (by decide) ?_
              refine lv_goto (tgt := 146) hx hb dX4_read_135 (by decide) ?_
              refine m_top (show nI 1 = bI (rI play (lat (came % 16)) co (gar (came % 16)) q2) from by rw [show rI play (lat (came % 16)) co (gar (came % 16)) q2 = true from by unfold rI; rw [if_pos c_78, if_neg c_117]; rw [show decide (q2 = 0) = true from decide_eq_true (by omega)]; rfl] <;> rfl) ?_
              exact K H locs hI
            · refine lv_aload_n hx hb dX4_read_125 rfl (lv_at hl 2 rfl) ?_
              refine lv_iload hx hb dX4_read_126 (lv_at hl 5 rfl) ?_
              refine lv_iconst (v := nI 1) hx hb dX4_read_128 (by decide) ?_
              refine m_isubN hx hb (by omega) dX4_read_129 ?_
              refine m_zald hx hb hE hI N (by omega) (j := q2 - 1) hcl13 (by omega) (by omega) dX4_read_130 ?_
              refine m_top (show (fun j => bI (ub co (gar (came % 16)) j)) (q2 - 1) = bI (ub co (gar (came % 16)) (q2 - 1)) from rfl) ?_
              refine m_zeqB (tgt := 138) hx hb dX4_read_131 (by decide) (fun c_131 => ?_) (fun c_131 => ?_)
              · refine lv_iconst (v := nI 0) hx hb dX4_read_138 (by decide) ?_
                refine lv_goto (tgt := 146) hx hb dX4_read_139 (by decide) ?_
                refine m_top (show nI 0 = bI (rI play (lat (came % 16)) co (gar (came % 16)) q2) from by rw [show rI play (lat (came % 16)) co (gar (came % 16)) q2 = false from by unfold rI; rw [if_pos c_78, if_neg c_117]; rw [c_131, show decide (q2 = 0) = false from decide_eq_false (by omega)]; rfl] <;> rfl) ?_
                exact K H locs hI
              · refine lv_iconst (v := nI 1) hx hb dX4_read_134 (by decide) ?_
                refine lv_goto (tgt := 146) hx hb dX4_read_135 (by decide) ?_
                refine m_top (show nI 1 = bI (rI play (lat (came % 16)) co (gar (came % 16)) q2) from by rw [show rI play (lat (came % 16)) co (gar (came % 16)) q2 = true from by unfold rI; rw [if_pos c_78, if_neg c_117]; rw [c_131, show decide (q2 = 0) = false from decide_eq_false (by omega)]; rfl] <;> rfl) ?_
                exact K H locs hI
        · refine lv_iload hx hb dX4_read_81 (lv_at hl 5 rfl) ?_
          refine lv_iconst (v := nI 4) hx hb dX4_read_83 (by decide) ?_
          refine m_cgeN (tgt := 100) hx hb (by omega) (by omega) dX4_read_84 (by decide) (fun c_84 => ?_) (fun c_84 => ?_)
          · refine lv_iconst (v := nI 0) hx hb dX4_read_100 (by decide) ?_
            refine lv_goto (tgt := 146) hx hb dX4_read_101 (by decide) ?_
            refine m_top (show nI 0 = bI (rI play (lat (came % 16)) co (gar (came % 16)) q2) from by rw [show rI play (lat (came % 16)) co (gar (came % 16)) q2 = false from by unfold rI; rw [if_neg c_78]; rw [show decide (q2 < 4) = false from decide_eq_false (by omega)]; rfl] <;> rfl) ?_
            exact K H locs hI
          · refine lv_aload_n hx hb dX4_read_87 rfl (lv_at hl 2 rfl) ?_
            refine lv_iload hx hb dX4_read_88 (lv_at hl 5 rfl) ?_
            refine lv_iconst (v := nI 1) hx hb dX4_read_90 (by decide) ?_
            refine m_iaddN hx hb dX4_read_91 ?_
            refine m_zald hx hb hE hI N (by omega) (j := q2 + 1) hcl13 (by omega) (by omega) dX4_read_92 ?_
            refine m_top (show (fun j => bI (ub co (gar (came % 16)) j)) (q2 + 1) = bI (ub co (gar (came % 16)) (q2 + 1)) from rfl) ?_
            refine m_zeqB (tgt := 100) hx hb dX4_read_93 (by decide) (fun c_93 => ?_) (fun c_93 => ?_)
            · refine lv_iconst (v := nI 0) hx hb dX4_read_100 (by decide) ?_
              refine lv_goto (tgt := 146) hx hb dX4_read_101 (by decide) ?_
              refine m_top (show nI 0 = bI (rI play (lat (came % 16)) co (gar (came % 16)) q2) from by rw [show rI play (lat (came % 16)) co (gar (came % 16)) q2 = false from by unfold rI; rw [if_neg c_78]; rw [c_93, show decide (q2 < 4) = true from decide_eq_true (by omega)]; rfl] <;> rfl) ?_
              exact K H locs hI
            · refine lv_iconst (v := nI 1) hx hb dX4_read_96 (by decide) ?_
              refine lv_goto (tgt := 146) hx hb dX4_read_97 (by decide) ?_
              refine m_top (show nI 1 = bI (rI play (lat (came % 16)) co (gar (came % 16)) q2) from by rw [show rI play (lat (came % 16)) co (gar (came % 16)) q2 = true from by unfold rI; rw [if_neg c_78]; rw [c_93, show decide (q2 < 4) = true from decide_eq_true (by omega)]; rfl] <;> rfl) ?_
              exact K H locs hI
      refine lv_istore (lv' := [(7, .int (bI (rI play (lat (came % 16)) co (gar (came % 16)) q2))), (0, .ref (ad1 50)), (1, .int (nI co)), (3, .ref (ad1 N)), (4, .int (nI (came % 16))), (5, .int (nI (rA play (lat (came % 16)) co (gar (came % 16)) q2))), (6, .int (nI q2))]) hx hb dX4_read_146 hl (by decide) rfl (fun ls hl => ?_)
      refine lv_iload hx hb dX4_read_148 (lv_at hl 5 rfl) ?_
      refine lv_iload hx hb dX4_read_150 (lv_at hl 0 rfl) ?_
      refine m_zeqB (tgt := 162) hx hb dX4_read_152 (by decide) (fun c_152 => ?_) (fun c_152 => ?_)
      · refine lv_iconst (v := nI 0) hx hb dX4_read_162 (by decide) ?_
        refine m_iaddN hx hb dX4_read_163 ?_
        refine lv_istore (lv' := [(5, .int (nI ((rA play (lat (came % 16)) co (gar (came % 16)) q2) + 0))), (7, .int (bI (rI play (lat (came % 16)) co (gar (came % 16)) q2))), (0, .ref (ad1 50)), (1, .int (nI co)), (3, .ref (ad1 N)), (4, .int (nI (came % 16))), (6, .int (nI q2))]) hx hb dX4_read_164 hl (by decide) rfl (fun ls hl => ?_)
        refine lv_iinc (v := nI (q2 + 1)) (lv' := [(6, .int (nI (q2 + 1))), (5, .int (nI ((rA play (lat (came % 16)) co (gar (came % 16)) q2) + 0))), (7, .int (bI (rI play (lat (came % 16)) co (gar (came % 16)) q2))), (0, .ref (ad1 50)), (1, .int (nI co)), (3, .ref (ad1 N)), (4, .int (nI (came % 16)))]) hx hb dX4_read_166 hl (k := 6) rfl (nI_add q2 1) (by decide) rfl (fun ls hl => ?_)
        refine lv_goto (tgt := 61) hx hb dX4_read_169 (by decide) ?_
        have hra : rA play (lat (came % 16)) co (gar (came % 16)) (q2 + 1) = (rA play (lat (came % 16)) co (gar (came % 16)) q2) + 0 := by show rA play (lat (came % 16)) co (gar (came % 16)) q2 + (if rI play (lat (came % 16)) co (gar (came % 16)) q2 = true then 2 ^ q2 else 0) = _; rw [if_neg (by rw [c_152]; decide)]
        have hl : lv_has ls 8 [(6, .int (nI (q2 + 1))), (5, .int (nI (rA play (lat (came % 16)) co (gar (came % 16)) (q2 + 1)))), (7, .int (bI (rI play (lat (came % 16)) co (gar (came % 16)) q2))), (0, .ref (ad1 50)), (1, .int (nI co)), (3, .ref (ad1 N)), (4, .int (nI (came % 16)))] := by rw [hra]; exact hl
        exact ih61 (q2 + 1) (show q2 + 1 ≤ 5 by omega) (show 5 - (q2 + 1) < 5 - q2 by omega) _ _ _ hI (lv_sub hl [3, 4, 5, 6, 1, 0] rfl)
      · refine lv_iconst (v := nI 1) hx hb dX4_read_155 (by decide) ?_
        refine lv_iload hx hb dX4_read_156 (lv_at hl 6 rfl) ?_
        refine lv_ishl hx hb dX4_read_158 ?_
        refine lv_goto (tgt := 163) hx hb dX4_read_159 (by decide) ?_
        refine m_top (show (nI 1) <<< ((nI q2) &&& 31) = nI (2 ^ q2) from one_sh q2 (by omega)) ?_
        refine m_iaddN hx hb dX4_read_163 ?_
        refine lv_istore (lv' := [(5, .int (nI ((rA play (lat (came % 16)) co (gar (came % 16)) q2) + (2 ^ q2)))), (7, .int (bI (rI play (lat (came % 16)) co (gar (came % 16)) q2))), (0, .ref (ad1 50)), (1, .int (nI co)), (3, .ref (ad1 N)), (4, .int (nI (came % 16))), (6, .int (nI q2))]) hx hb dX4_read_164 hl (by decide) rfl (fun ls hl => ?_)
        refine lv_iinc (v := nI (q2 + 1)) (lv' := [(6, .int (nI (q2 + 1))), (5, .int (nI ((rA play (lat (came % 16)) co (gar (came % 16)) q2) + (2 ^ q2)))), (7, .int (bI (rI play (lat (came % 16)) co (gar (came % 16)) q2))), (0, .ref (ad1 50)), (1, .int (nI co)), (3, .ref (ad1 N)), (4, .int (nI (came % 16)))]) hx hb dX4_read_166 hl (k := 6) rfl (nI_add q2 1) (by decide) rfl (fun ls hl => ?_)
        refine lv_goto (tgt := 61) hx hb dX4_read_169 (by decide) ?_
        have hra : rA play (lat (came % 16)) co (gar (came % 16)) (q2 + 1) = (rA play (lat (came % 16)) co (gar (came % 16)) q2) + (2 ^ q2) := by show rA play (lat (came % 16)) co (gar (came % 16)) q2 + (if rI play (lat (came % 16)) co (gar (came % 16)) q2 = true then 2 ^ q2 else 0) = _; rw [if_pos c_152]
        have hl : lv_has ls 8 [(6, .int (nI (q2 + 1))), (5, .int (nI (rA play (lat (came % 16)) co (gar (came % 16)) (q2 + 1)))), (7, .int (bI (rI play (lat (came % 16)) co (gar (came % 16)) q2))), (0, .ref (ad1 50)), (1, .int (nI co)), (3, .ref (ad1 N)), (4, .int (nI (came % 16)))] := by rw [hra]; exact hl
        exact ih61 (q2 + 1) (show q2 + 1 ≤ 5 by omega) (show 5 - (q2 + 1) < 5 - q2 by omega) _ _ _ hI (lv_sub hl [3, 4, 5, 6, 1, 0] rfl)
  · refine lv_aload_n hx hb dX4_read_19 rfl (lv_at hl 2 rfl) ?_
    refine lv_iload hx hb dX4_read_20 (lv_at hl 4 rfl) ?_
    refine lv_iload_n hx hb dX4_read_22 rfl (lv_at hl 1 rfl) ?_
    refine lv_iload hx hb dX4_read_23 (lv_at hl 4 rfl) ?_
    refine lv_ishr hx hb dX4_read_25 ?_
    refine lv_iconst (v := nI 1) hx hb dX4_read_26 (by decide) ?_
    refine lv_iand hx hb dX4_read_27 ?_
    refine m_top (show ((nI co) >>> ((nI q) &&& 31)) &&& (nI 1) = nI (co / 2 ^ q % 2) from unit5 _ (by omega) q (by omega)) ?_
    refine lv_aload_n hx hb dX4_read_28 rfl (lv_at hl 0 rfl) ?_
    refine m_get (ci := 4) (C := RX4) (T := TX4) (N' := 14) hx hb hts (by decide +kernel) hown hE hI 50 (by omega) (show g2 50 = .inr (4, [.ref (ad1 51), .ref (ad1 52), .ref (ad1 53), .int (bI fig), .int (bI uns), .int (nI play), .ref (ad1 54), .ref (ad1 55), .ref (ad1 56), .int (nI rd), .int (nI came), .int mis, .int lost, .int bel]) from hS.2.1) rfl 7 (by decide) (hts (.fieldLink RX4 30 "TapePrinterLaw$Sim" "garble" "[I") (by decide +kernel)) rfl dX4_read_29 ?_
    refine lv_iload hx hb dX4_read_32 (lv_at hl 3 rfl) ?_
    refine m_iald hx hb hE hI 55 (by omega) (j := came % 16) (show g2 55 = .inl (k.2.1.1, 16, .inl (fun j => nI (gar j))) from hS.2.2.2.2.2.2.1) (by omega) (by omega) dX4_read_34 ?_
    refine m_top (show (fun j => nI (gar j)) (came % 16) = nI (gar (came % 16)) from rfl) ?_
    refine lv_iload hx hb dX4_read_35 (lv_at hl 4 rfl) ?_
    refine lv_ishr hx hb dX4_read_37 ?_
    refine lv_iconst (v := nI 1) hx hb dX4_read_38 (by decide) ?_
    refine lv_iand hx hb dX4_read_39 ?_
    refine m_top (show ((nI (gar (came % 16))) >>> ((nI q) &&& 31)) &&& (nI 1) = nI ((gar (came % 16)) / 2 ^ q % 2) from unit5 _ (by omega) q (by omega)) ?_
    refine m_ceqN (tgt := 47) hx hb (by omega) (by omega) dX4_read_40 (by decide) (fun c_40 => ?_) (fun c_40 => ?_)
    · refine lv_iconst (v := nI 0) hx hb dX4_read_47 (by decide) ?_
      refine m_top (show nI 0 = bI (ub co (gar (came % 16)) q) from by rw [show ub co (gar (came % 16)) q = false from decide_eq_false (fun z => z c_40)] <;> rfl) ?_
      refine m_zast hx hb hE hI N (by omega) (j := q) (b9 := ub co (gar (came % 16)) q) hcl13 (by omega) (by omega) dX4_read_48 (fun H locs hI => ?_)
      obtain ⟨g4, hg4⟩ : ∃ zz, zz = va_up g2 N (.inl (k.2.1.2.2.1, 5, .inl (upd (fun j => if j < q then bI (ub co (gar (came % 16)) j) else nI 0) q (bI (ub co (gar (came % 16)) q))))) := ⟨_, rfl⟩
      replace hI : mI k ad1 (N + 1) g4 (mA ad N s.heap.size) s H locs := by rw [hg4]; exact hI
      have hS : SR k ad1 bs (N + 1) g4 uns play rd n lat gar T (came, mis, lost, bel, fig, u, ln, pg) := by rw [hg4]; exact SR.off hS (by omega)
      have hcl13 : g4 N = .inl (k.2.1.2.2.1, 5, .inl (upd (fun j => if j < q then bI (ub co (gar (came % 16)) j) else nI 0) q (bI (ub co (gar (came % 16)) q)))) := by rw [hg4, va_up_self]
      refine lv_iinc (v := nI (q + 1)) (lv' := [(5, .int (nI (q + 1))), (0, .ref (ad1 50)), (1, .int (nI co)), (3, .ref (ad1 N)), (4, .int (nI (came % 16)))]) hx hb dX4_read_49 hl (k := 4) rfl (nI_add q 1) (by decide) rfl (fun ls hl => ?_)
      refine lv_goto (tgt := 13) hx hb dX4_read_52 (by decide) ?_
      have hfr9 : ∀ i, i ≠ N → g4 i = g1 i := fun i hi => by rw [hg4, va_up_ne _ _ hi]; exact hf13 i hi
      rw [show upd (fun j => if j < q then bI (ub co (gar (came % 16)) j) else nI 0) q (bI (ub co (gar (came % 16)) q)) = fun j => if j < q + 1 then bI (ub co (gar (came % 16)) j) else nI 0 from mor_up (fun j => bI (ub co (gar (came % 16)) j)) q (nI 0)] at hcl13
      exact ih13 (q + 1, g4) ⟨(by omega), hcl13, hfr9⟩ (show 5 - (q + 1) < 5 - q by omega) _ _ _ hI (lv_sub hl [1, 2, 3, 4, 0] rfl)
    · refine lv_iconst (v := nI 1) hx hb dX4_read_43 (by decide) ?_
      refine lv_goto (tgt := 48) hx hb dX4_read_44 (by decide) ?_
      refine m_top (show nI 1 = bI (ub co (gar (came % 16)) q) from by rw [show ub co (gar (came % 16)) q = true from decide_eq_true c_40] <;> rfl) ?_
      refine m_zast hx hb hE hI N (by omega) (j := q) (b9 := ub co (gar (came % 16)) q) hcl13 (by omega) (by omega) dX4_read_48 (fun H locs hI => ?_)
      obtain ⟨g5, hg5⟩ : ∃ zz, zz = va_up g2 N (.inl (k.2.1.2.2.1, 5, .inl (upd (fun j => if j < q then bI (ub co (gar (came % 16)) j) else nI 0) q (bI (ub co (gar (came % 16)) q))))) := ⟨_, rfl⟩
      replace hI : mI k ad1 (N + 1) g5 (mA ad N s.heap.size) s H locs := by rw [hg5]; exact hI
      have hS : SR k ad1 bs (N + 1) g5 uns play rd n lat gar T (came, mis, lost, bel, fig, u, ln, pg) := by rw [hg5]; exact SR.off hS (by omega)
      have hcl13 : g5 N = .inl (k.2.1.2.2.1, 5, .inl (upd (fun j => if j < q then bI (ub co (gar (came % 16)) j) else nI 0) q (bI (ub co (gar (came % 16)) q)))) := by rw [hg5, va_up_self]
      refine lv_iinc (v := nI (q + 1)) (lv' := [(5, .int (nI (q + 1))), (0, .ref (ad1 50)), (1, .int (nI co)), (3, .ref (ad1 N)), (4, .int (nI (came % 16)))]) hx hb dX4_read_49 hl (k := 4) rfl (nI_add q 1) (by decide) rfl (fun ls hl => ?_)
      refine lv_goto (tgt := 13) hx hb dX4_read_52 (by decide) ?_
      have hfr9 : ∀ i, i ≠ N → g5 i = g1 i := fun i hi => by rw [hg5, va_up_ne _ _ hi]; exact hf13 i hi
      rw [show upd (fun j => if j < q then bI (ub co (gar (came % 16)) j) else nI 0) q (bI (ub co (gar (came % 16)) q)) = fun j => if j < q + 1 then bI (ub co (gar (came % 16)) j) else nI 0 from mor_up (fun j => bI (ub co (gar (came % 16)) j)) q (nI 0)] at hcl13
      exact ih13 (q + 1, g5) ⟨(by omega), hcl13, hfr9⟩ (show 5 - (q + 1) < 5 - q by omega) _ _ _ hI (lv_sub hl [1, 2, 3, 4, 0] rfl)
