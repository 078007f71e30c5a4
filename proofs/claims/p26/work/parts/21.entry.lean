/-! The law's entry: what holds there, in the layers' words. -/
theorem ev_eq {args : Array Value} {s : State} {a b : Term} {y : Int32} (h : (Cond.eq a b).before args s = true) (hb : b.eval args s none [] s = some (.int y)) : a.eval args s none [] s = some (.int y) := by
  simp only [Cond.before, Cond.holds, Cond.value, hb] at h
  cases ha : a.eval args s none [] s with
  | none => rw [ha] at h; simp at h
  | some v => cases v <;> (rw [ha] at h; simp at h) <;> rw [h]
def entT : Cond := Jvm.Cond.and given_1 narrow_1
theorem ent_codes : ∀ j, j < 55 → (flatC entT)[44 + j]? = some (Cond.eq (.elem (.static RX3 "CODES" "[I") (.int (Int32.ofNat j))) (.int (nI (cd j)))) := by decide +kernel
theorem ent_chars : ∀ j, j < 32 → (flatC entT)[9 + j]? = some (Cond.eq (.elem (.static RX3 "CHARACTERS" "[I") (.int (Int32.ofNat j))) (.int (nI (chL j)))) := by decide +kernel
theorem ent_c1 : (flatC entT)[42]? = some (Cond.arrayOf (.static RX3 "CODES" "[I") .int) := by decide +kernel
theorem ent_c2 : (flatC entT)[43]? = some (Cond.eq (.length (.static RX3 "CODES" "[I")) (.int 55)) := by decide +kernel
theorem ent_h1 : (flatC entT)[7]? = some (Cond.arrayOf (.static RX3 "CHARACTERS" "[I") .int) := by decide +kernel
theorem ent_h2 : (flatC entT)[8]? = some (Cond.eq (.length (.static RX3 "CHARACTERS" "[I")) (.int 32)) := by decide +kernel
theorem ent_z1 : (flatC entT)[4]? = some (Cond.isRef (.static Bundle.tN "UNASSIGNED_STACK" Bundle.steD)) := by decide +kernel
theorem ent_z2 : (flatC entT)[5]? = some (Cond.isRef (.static Bundle.tN "SUPPRESSED_SENTINEL" Bundle.listD)) := by decide +kernel
theorem ent_st : ∀ q ∈ mST, Cond.exactly (.string RX3 q.1) "java/lang/String" ∈ flatC entT := by decide +kernel
theorem ent_sr : ∀ q ∈ mST, Cond.stringRef RX3 q.1 q.2 ∈ lw_tbl := by decide +kernel
theorem ent_nd : ∀ x ∈ mNd, Cond.declares x ∈ lw_tbl := by decide +kernel
theorem ent_nx : ∀ x ∈ mNx, Cond.castable x x ∈ lw_tbl := by decide +kernel
theorem ent_u0 : ∀ w ∈ u_ws RX0 TX0 2, w ∈ lw_tbl := by decide +kernel
theorem ent_u1 : ∀ w ∈ u_ws RX1 TX1 3, w ∈ lw_tbl := by decide +kernel
theorem ent_u2 : ∀ w ∈ u_ws RX2 TX2 3, w ∈ lw_tbl := by decide +kernel
theorem ent_u3 : ∀ w ∈ u_ws RX3 TX3 10, w ∈ lw_tbl := by decide +kernel
theorem ent_u4 : ∀ w ∈ u_ws RX4 TX4 14, w ∈ lw_tbl := by decide +kernel
theorem law_k {s : State} {b : Nat} {A : Nat → Prop} (hts : ∀ w ∈ lw_tbl, w.before #[Value.ref b] s = true) (hgv : (Jvm.Cond.and given_1 narrow_1).before #[Value.ref b] s = true) (hA : ∀ a : Nat, a < s.heap.size → ¬ A a) : (∃ k : mC, mK k A s s.heap) ∧ va_AO "TapePrinter$Row" s := by
  have hs : ∀ c ∈ flatC entT, c.before #[Value.ref b] s = true := flat_of_before _ hgv
  have hao : va_AO "TapePrinter$Row" s := va_AO.of (hts (.arrayOver (.object "TapePrinter$Row")) (by decide +kernel))
  refine ⟨?_, hao⟩
  obtain ⟨c0, i0, hK0⟩ := u_known (C := RX0) (T := TX0) (N := 2) (n := 2) hts ent_u0 (hts (.instantiable RX0 2) (by decide +kernel))
  obtain ⟨c1, i1, hK1⟩ := u_known (C := RX1) (T := TX1) (N := 3) (n := 3) hts ent_u1 (hts (.instantiable RX1 3) (by decide +kernel))
  obtain ⟨c2, i2, hK2⟩ := u_known (C := RX2) (T := TX2) (N := 3) (n := 3) hts ent_u2 (hts (.instantiable RX2 3) (by decide +kernel))
  obtain ⟨c3, i3, hK3⟩ := u_known (C := RX3) (T := TX3) (N := 10) (n := 10) hts ent_u3 (hts (.instantiable RX3 10) (by decide +kernel))
  obtain ⟨c4, i4, hK4⟩ := u_known (C := RX4) (T := TX4) (N := 14) (n := 14) hts ent_u4 (hts (.instantiable RX4 14) (by decide +kernel))
  obtain ⟨cI, kI, pI, hI1, hI2, hI3⟩ := Cond.arrayClass_spec (hts (.arrayClass .int) (by decide +kernel))
  obtain ⟨cL, kL, pL, hL1, hL2, hL3⟩ := Cond.arrayClass_spec (hts (.arrayClass .boolean) (by decide +kernel))
  have hov := hts (.arrayOver (.array .int)) (by decide +kernel)
  obtain ⟨pQ, cQ, kQ, hQ1, -, hQ3, hQ4, hQ5⟩ := arrayOverA_spec (t := .int) (first := s) (o := none) (idx := []) hov
  obtain ⟨pO, cO, kO, hO1, hO2, hO3, hO4, hO5⟩ := Cond.arrayOver_spec hao
  obtain ⟨tc, htc, hTc⟩ := va_Tof (tm := .static RX3 "CODES" "[I") (ty := .int) (N := 55) (f := fun j => .int (nI (cd j))) (A := A) (by decide) (hs _ (List.mem_of_getElem? ent_c1)) (ev_eq (hs _ (List.mem_of_getElem? ent_c2)) rfl) (fun j hj => ev_eq (hs _ (List.mem_of_getElem? (ent_codes j hj))) rfl) hA
  obtain ⟨th, hth, hTh⟩ := va_Tof (tm := .static RX3 "CHARACTERS" "[I") (ty := .int) (N := 32) (f := fun j => .int (nI (chL j))) (A := A) (by decide) (hs _ (List.mem_of_getElem? ent_h1)) (ev_eq (hs _ (List.mem_of_getElem? ent_h2)) rfl) (fun j hj => ev_eq (hs _ (List.mem_of_getElem? (ent_chars j hj))) rfl) hA
  have hcl : ∀ (c : Nat) (q : vw_C), vwCl[c]? = some q → u_Kn s q.1 q.2.1 q.2.2 ((fun k => if k = 0 then c0 else if k = 1 then c1 else if k = 2 then c2 else if k = 3 then c3 else c4) c) ((fun k => if k = 0 then i0 else if k = 1 then i1 else if k = 2 then i2 else if k = 3 then i3 else i4) c) := by
    intro c q hq
    match c, hq with
    | 0, hq => cases hq; exact hK0
    | 1, hq => cases hq; exact hK1
    | 2, hq => cases hq; exact hK2
    | 3, hq => cases hq; exact hK3
    | 4, hq => cases hq; exact hK4
    | c + 5, hq => simp [vwCl] at hq
  refine ⟨((fun k => if k = 0 then c0 else if k = 1 then c1 else if k = 2 then c2 else if k = 3 then c3 else c4, fun k => if k = 0 then i0 else if k = 1 then i1 else if k = 2 then i2 else if k = 3 then i3 else i4), (cI, cO, cL, cQ), (tc, th)), ⟨hcl, ?_⟩, ⟨va_Zof (hts (.laysStatic RX3 "CODES" "[I") (by decide +kernel)) (hts (.initialized RX3) (by decide +kernel)) htc hA, hTc⟩, ⟨va_Zof (hts (.laysStatic RX3 "CHARACTERS" "[I") (by decide +kernel)) (hts (.initialized RX3) (by decide +kernel)) hth hA, hTh⟩,
    ⟨vx_Zqof (hts (.laysStatic Bundle.tN "UNASSIGNED_STACK" Bundle.steD) (by decide +kernel)) (hts (.initialized Bundle.tN) (by decide +kernel)) (hs _ (List.mem_of_getElem? ent_z1)) hA, vx_Zqof (hts (.laysStatic Bundle.tN "SUPPRESSED_SENTINEL" Bundle.listD) (by decide +kernel)) (hts (.initialized Bundle.tN) (by decide +kernel)) (hs _ (List.mem_of_getElem? ent_z2)) hA⟩, fun q hq => ?_, fun x hx => va_Nw.of rfl (hts _ (ent_nd x hx)), fun x hx => va_Nw.of rfl (hts _ (ent_nx x hx)), over_moved (Vm.Alike.refl _) hov, va_Nw.of rfl (hts (.methodLinkNest RX4 7 yL_characters RL) (by decide +kernel)), va_Nw.of rfl (hts (.methodLinkNest RL 89 yX4_init RL) (by decide +kernel))⟩
  · intro k q hq
    match k, hq with
    | 0, hq => cases hq; exact ⟨fun n z => ⟨fun k h => (by cases h), kI, hI2, pI, hI3⟩, hI1⟩
    | 1, hq => cases hq; exact ⟨fun n z => ⟨fun k h => (by cases h), kO, hO3, pO, hO4⟩, kO, pO, hO3, hO4, hO1, hO5⟩
    | 2, hq => cases hq; exact ⟨fun n z => ⟨fun k h => (by cases h), kL, hL2, pL, hL3⟩, hL1⟩
    | 3, hq => cases hq; exact ⟨fun n z => ⟨fun k h => (by cases h), kQ, hQ3, pQ, hQ4⟩, hQ5⟩
    | k + 4, hq => simp [mTys] at hq
  · obtain ⟨a, -, -, -, ha, -⟩ := Cond.exactly_spec (hs _ (ent_st q hq))
    exact ⟨a, vk_R.of (hts _ (ent_sr q hq)) ha⟩
