set_option maxHeartbeats 8000000 in
set_option maxRecDepth 100000 in
theorem st_setUnshift {p : Program} {l : Launch} {e : Env} {s : State} {m : MethodId} {below : List Frame} {meth : Method} {c : Code} {b L : Nat} {xs : Nat → Int32} {Q : State → Prop} {k : mC} {A : Nat → Prop} {ad : Nat → Nat} {r : Nat → Option Nat} {j : Nat} (C0 : LC p l s m meth c b L xs k A ad j) {d0 : Drawn} (hd0 : s.drawn.sameBut d0 lw_cs) {g : Nat → va_E} {H : Heap} {locs : List Loc} {ls : Array Slot} (hI : mI k ad 57 g A s H locs) (hl : lv_has ls 9 [(0, .ref b), (1, .ref (ad 0)), (2, .ref (ad 50)), (3, .ref (ad 56)), (4, .int (nI (4 * j)))]) (hLI : LI k ad g r j) (K : LK p l e s m below meth c b Q k A ad r j) : W p l e room_1 (s.setDrawn d0) m #[Value.ref b] below meth c H locs (57 + j) (2023 + 6 * j) Q (F0 m 544 ls []) := by
  obtain ⟨hx, hb, hml, hown, htsL, hst, hX, hbl, hAb, hEd, hL, hj4⟩ := C0
  have hts := dr_words htsL d0
  have hE := hEd d0
  have hX : va_X b L xs (s.setDrawn d0) s.heap := hX
  obtain ⟨uns, play, rd, n, lat, gar, T, ⟨came, mis, lost, bel, fig, fi, u, z, F⟩, ⟨came', mis', lost', bel', fig', u', ln, pg⟩, th, fo, hC, hM, ⟨e1, e2, e3, e4, e5, e6, hR2, hR3⟩, hW, hwf, hmw, hcj, h56⟩ := hLI
  have f1 : came = came' := e1
  have f2 : mis = mis' := e2
  have f3 : lost = lost' := e3
  have f4 : bel = bel' := e4
  have f5 : fig = fig' := e5
  have f6 : u = u' := Eq.symm e6
  clear e1 e2 e3 e4 e5 e6
  subst f1 f2 f3 f4 f5 f6
  have hR : PgR (fi, u, z, F) (u, ln, pg) := ⟨rfl, hR2, hR3⟩
  have hR2 : ∀ l, l < u → z (slt fi l) = ln l := hR2
  have hR3 : ∀ l, l < u → ∀ i, i < ln l → F (slt fi l) i = pg (40 * l + i) := hR3
  have hC : CR k ad g uns play rd n lat gar T (came, mis, lost, bel, fig, fi, u, z, F) r := hC
  have hM : MR k ad g th uns play rd n lat gar T (came, mis, lost, bel, fig, u, ln, pg) := hM
  have hwf : cWf (fi, u, z, F) := hwf
  have hmw : mWf (u, ln, pg) := hmw
  have hcj : came ≤ 120 * j := hcj
  have hcame : came < 2000000000 := by omega
  have hu20 : u ≤ 20 := hmw.2.1
  have hn120 : n ≤ 120 := hW.2.2.1
  have hrdn : rd ≤ n := hW.2.1
  have hpl9 : play ≤ 9 := hW.1
  have hY : YR (came, mis, lost, bel, fig, fi, u, z, F) (came, mis, lost, bel, fig, u, ln, pg) := ⟨rfl, rfl, rfl, rfl, rfl, hR⟩
  refine lv_aload_n hx hb dL_law_544 rfl (lv_at hl 1 rfl) ?_
  refine lv_aload_n hx hb dL_law_545 rfl (lv_at hl 0 rfl) ?_
  refine lv_iload hx hb dL_law_546 (lv_at hl 4 rfl) ?_
  refine lv_iconst (v := nI 1) hx hb dL_law_548 (by decide) ?_
  refine m_iaddN hx hb dL_law_549 ?_
  refine va_sld hx hb hX hbl hAb hI.2 (vp_in_nI (n := (4 * j) + 1) (by omega) (by omega)) dL_law_550 ?_
  refine m_top (y := xs ((4 * j) + 1)) (by rw [nI_clamp (by omega)]) ?_
  refine lv_if_eq (tgt := 558) hx hb dL_law_551 (by decide) (fun c_551 => ?_) (fun c_551 => ?_)
  · refine lv_iconst (v := nI 0) hx hb dL_law_558 (by decide) ?_
    refine m_top (y := bI false) (by decide) ?_
    refine m_callVi (As := [.int (bI false)]) (rest := []) ⟨hx, hb, hml, hown, hts⟩ hE hI (c_X3_setUnshift k l ad 57 g _ uns play rd n lat gar T came mis lost bel fig fi u z F r false (by omega) hW hwf hcame hC) (cwV 1 hts gL_law_X3_setUnshift rfl rfl rfl (by decide +kernel) ⟨Nat.le_of_ble_eq_true rfl, Nat.le_of_ble_eq_true rfl⟩) (i := 0) (by omega) hC.1 rfl rfl hl.1 rfl (Nat.le_of_ble_eq_true rfl) dL_law_559 ⟨by show 57 + j ≤ 601024; omega, by show 2023 + 6 * j ≤ 7293034; omega⟩ (fun r9 g9 H locs hp hI => ?_)
    obtain ⟨hr9, hC9, hk9⟩ := hp
    subst hr9
    have hM9 : MR k ad g9 th uns play rd n lat gar T (came, mis, lost, bel, fig, u, ln, pg) := MR.kept hM (fun i h1 h2 => hk9 i h1)
    refine lv_aload_n hx hb dL_law_562 rfl (lv_at hl 2 rfl) ?_
    refine lv_aload_n hx hb dL_law_563 rfl (lv_at hl 0 rfl) ?_
    refine lv_iload hx hb dL_law_564 (lv_at hl 4 rfl) ?_
    refine lv_iconst (v := nI 1) hx hb dL_law_566 (by decide) ?_
    refine m_iaddN hx hb dL_law_567 ?_
    refine va_sld hx hb hX hbl hAb hI.2 (vp_in_nI (n := (4 * j) + 1) (by omega) (by omega)) dL_law_568 ?_
    refine m_top (y := xs ((4 * j) + 1)) (by rw [nI_clamp (by omega)]) ?_
    refine lv_if_eq (tgt := 576) hx hb dL_law_569 (by decide) (fun c_569 => ?_) (fun c_569 => ?_)
    · refine lv_iconst (v := nI 0) hx hb dL_law_576 (by decide) ?_
      refine m_top (y := bI false) (by decide) ?_
      refine m_callVi (As := [.int (bI false)]) (rest := [.int (bI uns)]) ⟨hx, hb, hml, hown, hts⟩ hE hI (c_X4_setUnshift k l ad 57 g9 _ th uns play rd n lat gar T came mis lost bel fig u ln pg false (by omega) hW hmw hcame hM9) (cwV 1 hts gL_law_X4_setUnshift rfl rfl rfl (by decide +kernel) ⟨Nat.le_of_ble_eq_true rfl, Nat.le_of_ble_eq_true rfl⟩) (i := 50) (by omega) hM9.1 rfl rfl hl.1 rfl (Nat.le_of_ble_eq_true rfl) dL_law_577 ⟨by show 57 + j ≤ 601024; omega, by show 2023 + 6 * j ≤ 7293034; omega⟩ (fun r9 g4 H locs hp hI => ?_)
      obtain ⟨⟨hr4, hM4⟩, hk4⟩ := hp
      subst hr4
      refine lv_icmp_eq (tgt := 1350) hx hb dL_law_580 (by decide) (fun c_580 => ?_) (fun c_580 => ?_)
      · refine W.widen (k := 57 + (j + 1)) (n := 2023 + 6 * (j + 1)) (by omega) (by omega) ?_
        exact K d0 g4 H locs ls hd0 ⟨_, _, _, _, _, _, _, _, _, _, _, CR.kept hC9 (fun i hi => hk4 i (Or.inl hi)), hM4, hY, hW, hwf, hmw, (by show came ≤ 120 * (j + 1); omega), (hk4 56 (by omega)).trans ((hk9 56 (by omega)).trans h56)⟩ hI (lv_sub hl [0, 1, 2, 3, 4] rfl)
      · exact absurd rfl c_580
    · exact absurd c_551 c_569
  · refine lv_iconst (v := nI 1) hx hb dL_law_554 (by decide) ?_
    refine lv_goto (tgt := 559) hx hb dL_law_555 (by decide) ?_
    refine m_top (y := bI true) (by decide) ?_
    refine m_callVi (As := [.int (bI true)]) (rest := []) ⟨hx, hb, hml, hown, hts⟩ hE hI (c_X3_setUnshift k l ad 57 g _ uns play rd n lat gar T came mis lost bel fig fi u z F r true (by omega) hW hwf hcame hC) (cwV 1 hts gL_law_X3_setUnshift rfl rfl rfl (by decide +kernel) ⟨Nat.le_of_ble_eq_true rfl, Nat.le_of_ble_eq_true rfl⟩) (i := 0) (by omega) hC.1 rfl rfl hl.1 rfl (Nat.le_of_ble_eq_true rfl) dL_law_559 ⟨by show 57 + j ≤ 601024; omega, by show 2023 + 6 * j ≤ 7293034; omega⟩ (fun r9 g9 H locs hp hI => ?_)
    obtain ⟨hr9, hC9, hk9⟩ := hp
    subst hr9
    have hM9 : MR k ad g9 th uns play rd n lat gar T (came, mis, lost, bel, fig, u, ln, pg) := MR.kept hM (fun i h1 h2 => hk9 i h1)
    refine lv_aload_n hx hb dL_law_562 rfl (lv_at hl 2 rfl) ?_
    refine lv_aload_n hx hb dL_law_563 rfl (lv_at hl 0 rfl) ?_
    refine lv_iload hx hb dL_law_564 (lv_at hl 4 rfl) ?_
    refine lv_iconst (v := nI 1) hx hb dL_law_566 (by decide) ?_
    refine m_iaddN hx hb dL_law_567 ?_
    refine va_sld hx hb hX hbl hAb hI.2 (vp_in_nI (n := (4 * j) + 1) (by omega) (by omega)) dL_law_568 ?_
    refine m_top (y := xs ((4 * j) + 1)) (by rw [nI_clamp (by omega)]) ?_
    refine lv_if_eq (tgt := 576) hx hb dL_law_569 (by decide) (fun c_569 => ?_) (fun c_569 => ?_)
    · exact absurd c_569 c_551
    · refine lv_iconst (v := nI 1) hx hb dL_law_572 (by decide) ?_
      refine lv_goto (tgt := 577) hx hb dL_law_573 (by decide) ?_
      refine m_top (y := bI true) (by decide) ?_
      refine m_callVi (As := [.int (bI true)]) (rest := [.int (bI uns)]) ⟨hx, hb, hml, hown, hts⟩ hE hI (c_X4_setUnshift k l ad 57 g9 _ th uns play rd n lat gar T came mis lost bel fig u ln pg true (by omega) hW hmw hcame hM9) (cwV 1 hts gL_law_X4_setUnshift rfl rfl rfl (by decide +kernel) ⟨Nat.le_of_ble_eq_true rfl, Nat.le_of_ble_eq_true rfl⟩) (i := 50) (by omega) hM9.1 rfl rfl hl.1 rfl (Nat.le_of_ble_eq_true rfl) dL_law_577 ⟨by show 57 + j ≤ 601024; omega, by show 2023 + 6 * j ≤ 7293034; omega⟩ (fun r9 g4 H locs hp hI => ?_)
      obtain ⟨⟨hr4, hM4⟩, hk4⟩ := hp
      subst hr4
      refine lv_icmp_eq (tgt := 1350) hx hb dL_law_580 (by decide) (fun c_580 => ?_) (fun c_580 => ?_)
      · refine W.widen (k := 57 + (j + 1)) (n := 2023 + 6 * (j + 1)) (by omega) (by omega) ?_
        exact K d0 g4 H locs ls hd0 ⟨_, _, _, _, _, _, _, _, _, _, _, CR.kept hC9 (fun i hi => hk4 i (Or.inl hi)), hM4, hY, hW, hwf, hmw, (by show came ≤ 120 * (j + 1); omega), (hk4 56 (by omega)).trans ((hk9 56 (by omega)).trans h56)⟩ hI (lv_sub hl [0, 1, 2, 3, 4] rfl)
      · exact absurd rfl c_580
set_option maxHeartbeats 8000000 in
set_option maxRecDepth 100000 in
theorem st_wrong {p : Program} {l : Launch} {e : Env} {s : State} {m : MethodId} {below : List Frame} {meth : Method} {c : Code} {b L : Nat} {xs : Nat → Int32} {Q : State → Prop} {k : mC} {A : Nat → Prop} {ad : Nat → Nat} {r : Nat → Option Nat} {j : Nat} (C0 : LC p l s m meth c b L xs k A ad j) {d0 : Drawn} (hd0 : s.drawn.sameBut d0 lw_cs) {g : Nat → va_E} {H : Heap} {locs : List Loc} {ls : Array Slot} (hI : mI k ad 57 g A s H locs) (hl : lv_has ls 9 [(0, .ref b), (1, .ref (ad 0)), (2, .ref (ad 50)), (3, .ref (ad 56)), (4, .int (nI (4 * j)))]) (hLI : LI k ad g r j) (K : LK p l e s m below meth c b Q k A ad r j) : W p l e room_1 (s.setDrawn d0) m #[Value.ref b] below meth c H locs (57 + j) (2023 + 6 * j) Q (F0 m 1213 ls []) := by
  obtain ⟨hx, hb, hml, hown, htsL, hst, hX, hbl, hAb, hEd, hL, hj4⟩ := C0
  have hts := dr_words htsL d0
  have hE := hEd d0
  have hX : va_X b L xs (s.setDrawn d0) s.heap := hX
  obtain ⟨uns, play, rd, n, lat, gar, T, ⟨came, mis, lost, bel, fig, fi, u, z, F⟩, ⟨came', mis', lost', bel', fig', u', ln, pg⟩, th, fo, hC, hM, ⟨e1, e2, e3, e4, e5, e6, hR2, hR3⟩, hW, hwf, hmw, hcj, h56⟩ := hLI
  have f1 : came = came' := e1
  have f2 : mis = mis' := e2
  have f3 : lost = lost' := e3
  have f4 : bel = bel' := e4
  have f5 : fig = fig' := e5
  have f6 : u = u' := Eq.symm e6
  clear e1 e2 e3 e4 e5 e6
  subst f1 f2 f3 f4 f5 f6
  have hR : PgR (fi, u, z, F) (u, ln, pg) := ⟨rfl, hR2, hR3⟩
  have hR2 : ∀ l, l < u → z (slt fi l) = ln l := hR2
  have hR3 : ∀ l, l < u → ∀ i, i < ln l → F (slt fi l) i = pg (40 * l + i) := hR3
  have hC : CR k ad g uns play rd n lat gar T (came, mis, lost, bel, fig, fi, u, z, F) r := hC
  have hM : MR k ad g th uns play rd n lat gar T (came, mis, lost, bel, fig, u, ln, pg) := hM
  have hwf : cWf (fi, u, z, F) := hwf
  have hmw : mWf (u, ln, pg) := hmw
  have hcj : came ≤ 120 * j := hcj
  have hcame : came < 2000000000 := by omega
  have hu20 : u ≤ 20 := hmw.2.1
  have hn120 : n ≤ 120 := hW.2.2.1
  have hrdn : rd ≤ n := hW.2.1
  have hpl9 : play ≤ 9 := hW.1
  have hY : YR (came, mis, lost, bel, fig, fi, u, z, F) (came, mis, lost, bel, fig, u, ln, pg) := ⟨rfl, rfl, rfl, rfl, rfl, hR⟩
  refine lv_aload_n hx hb dL_law_1213 rfl (lv_at hl 1 rfl) ?_
  refine m_callVi (As := []) (rest := []) ⟨hx, hb, hml, hown, hts⟩ hE hI (c_X3_wrong k l ad 57 g _ uns play rd n lat gar T came mis lost bel fig fi u z F r (by omega) hW hwf hcame hC) (cwV 0 hts gL_law_X3_wrong rfl rfl rfl (by decide +kernel) ⟨Nat.le_of_ble_eq_true rfl, Nat.le_of_ble_eq_true rfl⟩) (i := 0) (by omega) hC.1 rfl rfl hl.1 rfl (Nat.le_of_ble_eq_true rfl) dL_law_1214 ⟨by show 57 + j ≤ 601024; omega, by show 2023 + 6 * j ≤ 7293034; omega⟩ (m_deti (fun H locs hI => ?_))
  refine lv_aload_n hx hb dL_law_1217 rfl (lv_at hl 2 rfl) ?_
  refine m_callVi (As := []) (rest := [.int (nI (wrN play lat gar T rd came (n - rd)))]) ⟨hx, hb, hml, hown, hts⟩ hE hI (c_X4_wrong k l ad 57 g _ th uns play rd n lat gar T came mis lost bel fig u ln pg (by omega) hW hmw hcame hM) (cwV 0 hts gL_law_X4_wrong rfl rfl rfl (by decide +kernel) ⟨Nat.le_of_ble_eq_true rfl, Nat.le_of_ble_eq_true rfl⟩) (i := 50) (by omega) hM.1 rfl rfl hl.1 rfl (Nat.le_of_ble_eq_true rfl) dL_law_1218 ⟨by show 57 + j ≤ 601024; omega, by show 2023 + 6 * j ≤ 7293034; omega⟩ (fun r9 g4 H locs hp hI => ?_)
  obtain ⟨⟨hr4, hM4⟩, hk4⟩ := hp
  subst hr4
  refine lv_icmp_eq (tgt := 1350) hx hb dL_law_1221 (by decide) (fun c_1221 => ?_) (fun c_1221 => ?_)
  · refine W.widen (k := 57 + (j + 1)) (n := 2023 + 6 * (j + 1)) (by omega) (by omega) ?_
    exact K d0 g4 H locs ls hd0 ⟨_, _, _, _, _, _, _, _, _, _, _, CR.kept hC (fun i hi => hk4 i (Or.inl hi)), hM4, hY, hW, hwf, hmw, (by show came ≤ 120 * (j + 1); omega), (hk4 56 (by omega)).trans h56⟩ hI (lv_sub hl [0, 1, 2, 3, 4] rfl)
  · exact absurd rfl c_1221
set_option maxHeartbeats 8000000 in
set_option maxRecDepth 100000 in
theorem st_idle {p : Program} {l : Launch} {e : Env} {s : State} {m : MethodId} {below : List Frame} {meth : Method} {c : Code} {b L : Nat} {xs : Nat → Int32} {Q : State → Prop} {k : mC} {A : Nat → Prop} {ad : Nat → Nat} {r : Nat → Option Nat} {j : Nat} (C0 : LC p l s m meth c b L xs k A ad j) {d0 : Drawn} (hd0 : s.drawn.sameBut d0 lw_cs) {g : Nat → va_E} {H : Heap} {locs : List Loc} {ls : Array Slot} (hI : mI k ad 57 g A s H locs) (hl : lv_has ls 9 [(0, .ref b), (1, .ref (ad 0)), (2, .ref (ad 50)), (3, .ref (ad 56)), (4, .int (nI (4 * j)))]) (hLI : LI k ad g r j) (K : LK p l e s m below meth c b Q k A ad r j) : W p l e room_1 (s.setDrawn d0) m #[Value.ref b] below meth c H locs (57 + j) (2023 + 6 * j) Q (F0 m 1226 ls []) := by
  obtain ⟨hx, hb, hml, hown, htsL, hst, hX, hbl, hAb, hEd, hL, hj4⟩ := C0
  have hts := dr_words htsL d0
  have hE := hEd d0
  have hX : va_X b L xs (s.setDrawn d0) s.heap := hX
  obtain ⟨uns, play, rd, n, lat, gar, T, ⟨came, mis, lost, bel, fig, fi, u, z, F⟩, ⟨came', mis', lost', bel', fig', u', ln, pg⟩, th, fo, hC, hM, ⟨e1, e2, e3, e4, e5, e6, hR2, hR3⟩, hW, hwf, hmw, hcj, h56⟩ := hLI
  have f1 : came = came' := e1
  have f2 : mis = mis' := e2
  have f3 : lost = lost' := e3
  have f4 : bel = bel' := e4
  have f5 : fig = fig' := e5
  have f6 : u = u' := Eq.symm e6
  clear e1 e2 e3 e4 e5 e6
  subst f1 f2 f3 f4 f5 f6
  have hR : PgR (fi, u, z, F) (u, ln, pg) := ⟨rfl, hR2, hR3⟩
  have hR2 : ∀ l, l < u → z (slt fi l) = ln l := hR2
  have hR3 : ∀ l, l < u → ∀ i, i < ln l → F (slt fi l) i = pg (40 * l + i) := hR3
  have hC : CR k ad g uns play rd n lat gar T (came, mis, lost, bel, fig, fi, u, z, F) r := hC
  have hM : MR k ad g th uns play rd n lat gar T (came, mis, lost, bel, fig, u, ln, pg) := hM
  have hwf : cWf (fi, u, z, F) := hwf
  have hmw : mWf (u, ln, pg) := hmw
  have hcj : came ≤ 120 * j := hcj
  have hcame : came < 2000000000 := by omega
  have hu20 : u ≤ 20 := hmw.2.1
  have hn120 : n ≤ 120 := hW.2.2.1
  have hrdn : rd ≤ n := hW.2.1
  have hpl9 : play ≤ 9 := hW.1
  have hY : YR (came, mis, lost, bel, fig, fi, u, z, F) (came, mis, lost, bel, fig, u, ln, pg) := ⟨rfl, rfl, rfl, rfl, rfl, hR⟩
  refine lv_aload_n hx hb dL_law_1226 rfl (lv_at hl 1 rfl) ?_
  refine m_callVi (As := []) (rest := []) ⟨hx, hb, hml, hown, hts⟩ hE hI (c_X3_idle k l ad 57 g _ rd fig uns came mis lost bel n T (by omega) hC.1 hn120 hW.2.2.2.2.1 hC.2.2.2) (cwV 0 hts gL_law_X3_idle rfl rfl rfl (by decide +kernel) ⟨Nat.le_of_ble_eq_true rfl, Nat.le_of_ble_eq_true rfl⟩) (i := 0) (by omega) hC.1 rfl rfl hl.1 rfl (Nat.le_of_ble_eq_true rfl) dL_law_1227 ⟨by show 57 + j ≤ 601024; omega, by show 2023 + 6 * j ≤ 7293034; omega⟩ (m_deti (fun H locs hI => ?_))
  refine lv_aload_n hx hb dL_law_1230 rfl (lv_at hl 2 rfl) ?_
  refine m_callVi (As := []) (rest := [.int (nI (idl uns T n n))]) ⟨hx, hb, hml, hown, hts⟩ hE hI (c_X4_idle k l ad 57 g _ th uns play rd n lat gar T came mis lost bel fig u ln pg (by omega) hW hmw hcame hM) (cwV 0 hts gL_law_X4_idle rfl rfl rfl (by decide +kernel) ⟨Nat.le_of_ble_eq_true rfl, Nat.le_of_ble_eq_true rfl⟩) (i := 50) (by omega) hM.1 rfl rfl hl.1 rfl (Nat.le_of_ble_eq_true rfl) dL_law_1231 ⟨by show 57 + j ≤ 601024; omega, by show 2023 + 6 * j ≤ 7293034; omega⟩ (fun r9 g4 H locs hp hI => ?_)
  obtain ⟨⟨hr4, hM4⟩, hk4⟩ := hp
  subst hr4
  refine lv_icmp_eq (tgt := 1350) hx hb dL_law_1234 (by decide) (fun c_1234 => ?_) (fun c_1234 => ?_)
  · refine W.widen (k := 57 + (j + 1)) (n := 2023 + 6 * (j + 1)) (by omega) (by omega) ?_
    exact K d0 g4 H locs ls hd0 ⟨_, _, _, _, _, _, _, _, _, _, _, CR.kept hC (fun i hi => hk4 i (Or.inl hi)), hM4, hY, hW, hwf, hmw, (by show came ≤ 120 * (j + 1); omega), (hk4 56 (by omega)).trans h56⟩ hI (lv_sub hl [0, 1, 2, 3, 4] rfl)
  · exact absurd rfl c_1234
set_option maxHeartbeats 8000000 in
set_option maxRecDepth 100000 in
theorem st_digest {p : Program} {l : Launch} {e : Env} {s : State} {m : MethodId} {below : List Frame} {meth : Method} {c : Code} {b L : Nat} {xs : Nat → Int32} {Q : State → Prop} {k : mC} {A : Nat → Prop} {ad : Nat → Nat} {r : Nat → Option Nat} {j : Nat} (C0 : LC p l s m meth c b L xs k A ad j) {d0 : Drawn} (hd0 : s.drawn.sameBut d0 lw_cs) {g : Nat → va_E} {H : Heap} {locs : List Loc} {ls : Array Slot} (hI : mI k ad 57 g A s H locs) (hl : lv_has ls 9 [(0, .ref b), (1, .ref (ad 0)), (2, .ref (ad 50)), (3, .ref (ad 56)), (4, .int (nI (4 * j)))]) (hLI : LI k ad g r j) (K : LK p l e s m below meth c b Q k A ad r j) : W p l e room_1 (s.setDrawn d0) m #[Value.ref b] below meth c H locs (57 + j) (2023 + 6 * j) Q (F0 m 1336 ls []) := by
  obtain ⟨hx, hb, hml, hown, htsL, hst, hX, hbl, hAb, hEd, hL, hj4⟩ := C0
  have hts := dr_words htsL d0
  have hE := hEd d0
  have hX : va_X b L xs (s.setDrawn d0) s.heap := hX
  obtain ⟨uns, play, rd, n, lat, gar, T, ⟨came, mis, lost, bel, fig, fi, u, z, F⟩, ⟨came', mis', lost', bel', fig', u', ln, pg⟩, th, fo, hC, hM, ⟨e1, e2, e3, e4, e5, e6, hR2, hR3⟩, hW, hwf, hmw, hcj, h56⟩ := hLI
  have f1 : came = came' := e1
  have f2 : mis = mis' := e2
  have f3 : lost = lost' := e3
  have f4 : bel = bel' := e4
  have f5 : fig = fig' := e5
  have f6 : u = u' := Eq.symm e6
  clear e1 e2 e3 e4 e5 e6
  subst f1 f2 f3 f4 f5 f6
  have hR : PgR (fi, u, z, F) (u, ln, pg) := ⟨rfl, hR2, hR3⟩
  have hR2 : ∀ l, l < u → z (slt fi l) = ln l := hR2
  have hR3 : ∀ l, l < u → ∀ i, i < ln l → F (slt fi l) i = pg (40 * l + i) := hR3
  have hC : CR k ad g uns play rd n lat gar T (came, mis, lost, bel, fig, fi, u, z, F) r := hC
  have hM : MR k ad g th uns play rd n lat gar T (came, mis, lost, bel, fig, u, ln, pg) := hM
  have hwf : cWf (fi, u, z, F) := hwf
  have hmw : mWf (u, ln, pg) := hmw
  have hcj : came ≤ 120 * j := hcj
  have hcame : came < 2000000000 := by omega
  have hu20 : u ≤ 20 := hmw.2.1
  have hn120 : n ≤ 120 := hW.2.2.1
  have hrdn : rd ≤ n := hW.2.1
  have hpl9 : play ≤ 9 := hW.1
  have hY : YR (came, mis, lost, bel, fig, fi, u, z, F) (came, mis, lost, bel, fig, u, ln, pg) := ⟨rfl, rfl, rfl, rfl, rfl, hR⟩
  refine lv_aload_n hx hb dL_law_1336 rfl (lv_at hl 1 rfl) ?_
  refine m_callVl (As := []) (rest := []) ⟨hx, hb, hml, hown, hts⟩ hE hI (c_X3_digest k l ad 57 g _ uns play rd n lat gar T came mis lost bel fig fi u z F r (by omega) hW hwf hcame hC) (cwV 0 hts gL_law_X3_digest rfl rfl rfl (by decide +kernel) ⟨Nat.le_of_ble_eq_true rfl, Nat.le_of_ble_eq_true rfl⟩) (i := 0) (by omega) hC.1 rfl rfl hl.1 rfl (Nat.le_of_ble_eq_true rfl) dL_law_1337 ⟨by show 57 + j ≤ 601024; omega, by show 2023 + 6 * j ≤ 7293034; omega⟩ (m_detl (fun H locs hI => ?_))
  refine lv_aload_n hx hb dL_law_1340 rfl (lv_at hl 2 rfl) ?_
  refine m_callVl (As := []) (rest := [.long (dgA (cntV u (sumz z fi u) fig play n rd came mis lost uns bel) lat (fun j => nI (gar j)) u (fun l1 => z (slt fi l1)) (fun l1 i1 => nI (F (slt fi l1) i1)) n (fun j => nI (T j)))]) ⟨hx, hb, hml, hown, hts⟩ hE hI (c_X4_digest k l ad 57 g _ th uns play rd n lat gar T came mis lost bel fig u ln pg (by omega) hW hmw hcame hM) (cwV 0 hts gL_law_X4_digest rfl rfl rfl (by decide +kernel) ⟨Nat.le_of_ble_eq_true rfl, Nat.le_of_ble_eq_true rfl⟩) (i := 50) (by omega) hM.1 rfl rfl hl.1 rfl (Nat.le_of_ble_eq_true rfl) dL_law_1341 ⟨by show 57 + j ≤ 601024; omega, by show 2023 + 6 * j ≤ 7293034; omega⟩ (fun r9 g4 H locs hp hI => ?_)
  obtain ⟨⟨hr4, hM4⟩, hk4⟩ := hp
  subst hr4
  refine W.lcmp hx hb dL_law_1344 ?_
  have hdg : dgA (cntV u (sumz z fi u) fig play n rd came mis lost uns bel) lat (fun j => nI (gar j)) u (fun l1 => z (slt fi l1)) (fun l1 i1 => nI (F (slt fi l1) i1)) n (fun j => nI (T j)) = dgA (cntV u (sumL ln u) fig play n rd came mis lost uns bel) lat (fun j => nI (gar j)) u ln (fun l1 i1 => nI (pg (40 * l1 + i1))) n (fun j => nI (T j)) := by unfold dgA; rw [PgR_sum hR u (Nat.le_refl u), PgR_dg hR _ u (Nat.le_refl u)]
  refine m_top (y := nI 0) (show lg_cmp (dgA (cntV u (sumz z fi u) fig play n rd came mis lost uns bel) lat (fun j => nI (gar j)) u (fun l1 => z (slt fi l1)) (fun l1 i1 => nI (F (slt fi l1) i1)) n (fun j => nI (T j))) (dgA (cntV u (sumL ln u) fig play n rd came mis lost uns bel) lat (fun j => nI (gar j)) u ln (fun l1 i1 => nI (pg (40 * l1 + i1))) n (fun j => nI (T j))) = nI 0 from by rw [nI_0]; exact (lg_cmp_eq _ _).mpr hdg) ?_
  refine m_zeqN (tgt := 1350) hx hb (by omega) dL_law_1345 (by decide) (fun c_1345 => ?_) (fun c => absurd c (by decide))
  refine W.widen (k := 57 + (j + 1)) (n := 2023 + 6 * (j + 1)) (by omega) (by omega) ?_
  exact K d0 g4 H locs ls hd0 ⟨_, _, _, _, _, _, _, _, _, _, _, CR.kept hC (fun i hi => hk4 i (Or.inl hi)), hM4, hY, hW, hwf, hmw, (by show came ≤ 120 * (j + 1); omega), (hk4 56 (by omega)).trans h56⟩ hI (lv_sub hl [0, 1, 2, 3, 4] rfl)
set_option maxHeartbeats 8000000 in
set_option maxRecDepth 100000 in
theorem st_mean {p : Program} {l : Launch} {e : Env} {s : State} {m : MethodId} {below : List Frame} {meth : Method} {c : Code} {b L : Nat} {xs : Nat → Int32} {Q : State → Prop} {k : mC} {A : Nat → Prop} {ad : Nat → Nat} {r : Nat → Option Nat} {j : Nat} (C0 : LC p l s m meth c b L xs k A ad j) {d0 : Drawn} (hd0 : s.drawn.sameBut d0 lw_cs) {g : Nat → va_E} {H : Heap} {locs : List Loc} {ls : Array Slot} (hI : mI k ad 57 g A s H locs) (hl : lv_has ls 9 [(0, .ref b), (1, .ref (ad 0)), (2, .ref (ad 50)), (3, .ref (ad 56)), (4, .int (nI (4 * j)))]) (hLI : LI k ad g r j) (K : LK p l e s m below meth c b Q k A ad r j) : W p l e room_1 (s.setDrawn d0) m #[Value.ref b] below meth c H locs (57 + j) (2023 + 6 * j) Q (F0 m 1295 ls []) := by
  obtain ⟨hx, hb, hml, hown, htsL, hst, hX, hbl, hAb, hEd, hL, hj4⟩ := C0
  have hts := dr_words htsL d0
  have hE := hEd d0
  have hX : va_X b L xs (s.setDrawn d0) s.heap := hX
  obtain ⟨uns, play, rd, n, lat, gar, T, ⟨came, mis, lost, bel, fig, fi, u, z, F⟩, ⟨came', mis', lost', bel', fig', u', ln, pg⟩, th, fo, hC, hM, ⟨e1, e2, e3, e4, e5, e6, hR2, hR3⟩, hW, hwf, hmw, hcj, h56⟩ := hLI
  have f1 : came = came' := e1
  have f2 : mis = mis' := e2
  have f3 : lost = lost' := e3
  have f4 : bel = bel' := e4
  have f5 : fig = fig' := e5
  have f6 : u = u' := Eq.symm e6
  clear e1 e2 e3 e4 e5 e6
  subst f1 f2 f3 f4 f5 f6
  have hR : PgR (fi, u, z, F) (u, ln, pg) := ⟨rfl, hR2, hR3⟩
  have hR2 : ∀ l, l < u → z (slt fi l) = ln l := hR2
  have hR3 : ∀ l, l < u → ∀ i, i < ln l → F (slt fi l) i = pg (40 * l + i) := hR3
  have hC : CR k ad g uns play rd n lat gar T (came, mis, lost, bel, fig, fi, u, z, F) r := hC
  have hM : MR k ad g th uns play rd n lat gar T (came, mis, lost, bel, fig, u, ln, pg) := hM
  have hwf : cWf (fi, u, z, F) := hwf
  have hmw : mWf (u, ln, pg) := hmw
  have hcj : came ≤ 120 * j := hcj
  have hcame : came < 2000000000 := by omega
  have hu20 : u ≤ 20 := hmw.2.1
  have hn120 : n ≤ 120 := hW.2.2.1
  have hrdn : rd ≤ n := hW.2.1
  have hpl9 : play ≤ 9 := hW.1
  have hY : YR (came, mis, lost, bel, fig, fi, u, z, F) (came, mis, lost, bel, fig, u, ln, pg) := ⟨rfl, rfl, rfl, rfl, rfl, hR⟩
  refine lv_aload_n hx hb dL_law_1295 rfl (lv_at hl 1 rfl) ?_
  refine m_callVd (As := []) (rest := []) hd0 ⟨hx, hb, hml, hown, hts⟩ hE hI (c_X3_mean k l ad 57 g _ uns play rd n lat gar T came mis lost bel fig fi u z F r (by omega) hW hwf hcame hC) (cwV 0 hts gL_law_X3_mean rfl rfl rfl (by decide +kernel) ⟨Nat.le_of_ble_eq_true rfl, Nat.le_of_ble_eq_true rfl⟩) (i := 0) (by omega) hC.1 rfl rfl hl.1 rfl (Nat.le_of_ble_eq_true rfl) dL_law_1296 ⟨by show 57 + j ≤ 601024; omega, by show 2023 + 6 * j ≤ 7293034; omega⟩ (fun rA g9 H locs hp hI d1 hd1 => ?_)
  obtain ⟨haA, hgg⟩ := hp
  rw [hgg] at hI
  rw [PgR_sum hR u (Nat.le_refl u)] at haA
  have hts := dr_words htsL d1
  have hE := hEd d1
  refine lv_dstore (lv' := [(5, .double rA), (0, .ref b), (1, .ref (ad 0)), (2, .ref (ad 50)), (3, .ref (ad 56)), (4, .int (nI (4 * j)))]) hx hb dL_law_1299 hl (by decide) rfl (fun ls hl => ?_)
  refine lv_aload_n hx hb dL_law_1301 rfl (lv_at hl 3 rfl) ?_
  refine m_callVd (As := []) (rest := []) hd1 ⟨hx, hb, hml, hown, hts⟩ hE hI (c_X4_mean k l ad 57 g _ th uns play rd n lat gar T came mis lost bel fig u ln pg (by omega) hW hmw hcame hM) (cwV 0 hts gL_law_X4_mean rfl rfl rfl (by decide +kernel) ⟨Nat.le_of_ble_eq_true rfl, Nat.le_of_ble_eq_true rfl⟩) (i := 50) (by omega) hM.1 rfl rfl hl.1 rfl (Nat.le_of_ble_eq_true rfl) dL_law_1302 ⟨by show 57 + j ≤ 601024; omega, by show 2023 + 6 * j ≤ 7293034; omega⟩ (fun rB g4 H locs hp hI d2 hd2 => ?_)
  obtain ⟨⟨haB, hM4⟩, hk4⟩ := hp
  have hts := dr_words htsL d2
  have hE := hEd d2
  refine lv_dstore (lv' := [(7, .double rB), (5, .double rA), (0, .ref b), (1, .ref (ad 0)), (2, .ref (ad 50)), (3, .ref (ad 56)), (4, .int (nI (4 * j)))]) hx hb dL_law_1305 hl (by decide) rfl (fun ls hl => ?_)
  refine lv_dload hx hb dL_law_1307 (lv_at hl 1 rfl) ?_
  refine lv_dload hx hb dL_law_1309 (lv_at hl 0 rfl) ?_
  refine lv_dcmp hx hb dL_law_1311 ?_
  refine lv_if_eq (tgt := 1333) hx hb dL_law_1312 (by decide) (fun c_1312 => ?_) (fun c_1312 => ?_)
  · refine lv_goto (tgt := 1350) hx hb dL_law_1333 (by decide) ?_
    refine W.widen (k := 57 + (j + 1)) (n := 2023 + 6 * (j + 1)) (by omega) (by omega) ?_
    exact K d2 g4 H locs ls hd2 ⟨_, _, _, _, _, _, _, _, _, _, _, CR.kept hC (fun i hi => hk4 i (Or.inl hi)), hM4, hY, hW, hwf, hmw, (by show came ≤ 120 * (j + 1); omega), (hk4 56 (by omega)).trans h56⟩ hI (lv_sub hl [2, 3, 4, 5, 6] rfl)
  · refine lv_dload hx hb dL_law_1315 (lv_at hl 1 rfl) ?_
    refine lv_dload hx hb dL_law_1317 (lv_at hl 1 rfl) ?_
    refine lv_dcmp hx hb dL_law_1319 ?_
    refine lv_if_eq (tgt := 1331) hx hb dL_law_1320 (by decide) (fun c_1320 => ?_) (fun c_1320 => ?_)
    · exact absurd c_1320 (mean_ne haA haB c_1312).1
    · refine lv_dload hx hb dL_law_1323 (lv_at hl 0 rfl) ?_
      refine lv_dload hx hb dL_law_1325 (lv_at hl 0 rfl) ?_
      refine lv_dcmp hx hb dL_law_1327 ?_
      refine lv_if_ne (tgt := 1333) hx hb dL_law_1328 (by decide) (fun c_1328 => ?_) (fun c_1328 => ?_)
      · refine lv_goto (tgt := 1350) hx hb dL_law_1333 (by decide) ?_
        refine W.widen (k := 57 + (j + 1)) (n := 2023 + 6 * (j + 1)) (by omega) (by omega) ?_
        exact K d2 g4 H locs ls hd2 ⟨_, _, _, _, _, _, _, _, _, _, _, CR.kept hC (fun i hi => hk4 i (Or.inl hi)), hM4, hY, hW, hwf, hmw, (by show came ≤ 120 * (j + 1); omega), (hk4 56 (by omega)).trans h56⟩ hI (lv_sub hl [2, 3, 4, 5, 6] rfl)
      · exact absurd c_1328 (mean_ne haA haB c_1312).2
theorem LI.next {k : mC} {ad : Nat → Nat} {g : Nat → va_E} {r : Nat → Option Nat} {j : Nat} (h : LI k ad g r j) : LI k ad g r (j + 1) := by
  obtain ⟨uns, play, rd, n, lat, gar, T, y, v, th, fo, h1, h2, h3, h4, h5, h6, h7, h8⟩ := h
  exact ⟨uns, play, rd, n, lat, gar, T, y, v, th, fo, h1, h2, h3, h4, h5, h6, by omega, h8⟩
theorem sub4 {L a : Nat} (hL : L ≤ 2048) (ha : a ≤ 4000) : (nI L - nI 4 < nI a) ↔ L < a + 4 := by
  by_cases h : 4 ≤ L
  · rw [pk_sub h, nI_ltI (by omega) (by omega)]; omega
  · have h9 : L = 0 ∨ L = 1 ∨ L = 2 ∨ L = 3 := by omega
    have h8 : nI L - nI 4 < nI a := by
      rw [Int32.lt_iff_toInt_lt, nI_toInt (show a < 2147483648 by omega)]
      rcases h9 with rfl | rfl | rfl | rfl
      · have h7 : (nI 0 - nI 4).toInt = -4 := by decide
        omega
      · have h7 : (nI 1 - nI 4).toInt = -3 := by decide
        omega
      · have h7 : (nI 2 - nI 4).toInt = -2 := by decide
        omega
      · have h7 : (nI 3 - nI 4).toInt = -1 := by decide
        omega
    exact ⟨fun _ => by omega, fun _ => h8⟩
set_option maxHeartbeats 8000000 in
set_option maxRecDepth 100000 in
theorem law_head {p : Program} {l : Launch} {e : Env} {s : State} {m : MethodId} {below : List Frame} {meth : Method} {c : Code} {b L : Nat} {xs : Nat → Int32} {Q : State → Prop} {k : mC} {A : Nat → Prop} {ad : Nat → Nat} {r : Nat → Option Nat} {j : Nat} (C0 : LC p l s m meth c b L xs k A ad j) {d0 : Drawn} (hd0 : s.drawn.sameBut d0 lw_cs) {g : Nat → va_E} {H : Heap} {locs : List Loc} {ls : Array Slot} (hI : mI k ad 57 g A s H locs) (hl : lv_has ls 9 [(0, .ref b), (1, .ref (ad 0)), (2, .ref (ad 50)), (3, .ref (ad 56)), (4, .int (nI (4 * j)))]) (hLI : LI k ad g r j) (K : LK p l e s m below meth c b Q k A ad r j) : W p l e room_1 (s.setDrawn d0) m #[Value.ref b] below meth c H locs (57 + j) (2023 + 6 * j) Q (F0 m 32 ls []) := by
  obtain ⟨hx, hb, hml, hown, htsL, hst, hX, hbl, hAb, hEd, hL, hj4⟩ := id C0
  have hts := dr_words htsL d0
  have hE := hEd d0
  have hX : va_X b L xs (s.setDrawn d0) s.heap := hX
  refine lv_aload_n hx hb dL_law_32 rfl (lv_at hl 0 rfl) ?_
  refine lv_iload hx hb dL_law_33 (lv_at hl 4 rfl) ?_
  refine va_sld hx hb hX hbl hAb hI.2 (vp_in_nI (n := 4 * j) (by omega) (by omega)) dL_law_35 ?_
  refine m_top (y := xs (4 * j)) (by rw [nI_clamp (by omega)]) ?_
  refine lv_bipush (v := nI 31) hx hb dL_law_36 (by decide) ?_
  refine lv_iand hx hb dL_law_38 ?_
  obtain ⟨q, hq, hq2⟩ := and31 (xs (4 * j))
  refine m_top hq2 ?_
  have hsw : q = 0 ∨ q = 1 ∨ q = 2 ∨ q = 3 ∨ q = 4 ∨ q = 5 ∨ q = 6 ∨ q = 7 ∨ q = 8 ∨ q = 9 ∨ q = 10 ∨ q = 11 ∨ q = 12 ∨ q = 13 ∨ q = 14 ∨ q = 15 ∨ q = 16 ∨ q = 17 ∨ q = 18 ∨ q = 19 ∨ q = 20 ∨ q = 21 ∨ q = 22 ∨ q = 23 ∨ q = 24 ∨ q = 25 ∨ q = 26 ∨ q = 27 ∨ q = 28 ∨ q = 29 ∨ q = 30 ∨ q = 31 := by omega
  rcases hsw with rfl | rfl | rfl | rfl | rfl | rfl | rfl | rfl | rfl | rfl | rfl | rfl | rfl | rfl | rfl | rfl | rfl | rfl | rfl | rfl | rfl | rfl | rfl | rfl | rfl | rfl | rfl | rfl | rfl | rfl | rfl | rfl
  · refine lv_tableIn (tgt := 144) hx hb dL_law_39 (by decide) (by decide) (off := 105) (by decide) (by decide) ?_
    exact st_code C0 hd0 hI hl hLI K
  · refine lv_tableIn (tgt := 200) hx hb dL_law_39 (by decide) (by decide) (off := 161) (by decide) (by decide) ?_
    exact st_character C0 hd0 hI hl hLI K
  · refine lv_tableIn (tgt := 284) hx hb dL_law_39 (by decide) (by decide) (off := 245) (by decide) (by decide) ?_
    exact st_apart C0 hd0 hI hl hLI K
  · refine lv_tableIn (tgt := 352) hx hb dL_law_39 (by decide) (by decide) (off := 313) (by decide) (by decide) ?_
    exact st_doubts C0 hd0 hI hl hLI K
  · refine lv_tableIn (tgt := 408) hx hb dL_law_39 (by decide) (by decide) (off := 369) (by decide) (by decide) ?_
    exact st_setLine C0 hd0 hI hl hLI K
  · refine lv_tableIn (tgt := 488) hx hb dL_law_39 (by decide) (by decide) (off := 449) (by decide) (by decide) ?_
    exact st_setPlay C0 hd0 hI hl hLI K
  · refine lv_tableIn (tgt := 544) hx hb dL_law_39 (by decide) (by decide) (off := 505) (by decide) (by decide) ?_
    exact st_setUnshift C0 hd0 hI hl hLI K
  · refine lv_tableIn (tgt := 585) hx hb dL_law_39 (by decide) (by decide) (off := 546) (by decide) (by decide) ?_
    exact st_receive C0 hd0 hI hl hLI K
  · refine lv_tableIn (tgt := 641) hx hb dL_law_39 (by decide) (by decide) (off := 602) (by decide) (by decide) ?_
    exact st_punch C0 hd0 hI hl hLI K
  · refine lv_tableIn (tgt := 697) hx hb dL_law_39 (by decide) (by decide) (off := 658) (by decide) (by decide) ?_
    exact st_type C0 hd0 hI hl hLI K
  · refine lv_tableIn (tgt := 753) hx hb dL_law_39 (by decide) (by decide) (off := 714) (by decide) (by decide) ?_
    exact st_rub C0 hd0 hI hl hLI K
  · refine lv_tableIn (tgt := 809) hx hb dL_law_39 (by decide) (by decide) (off := 770) (by decide) (by decide) ?_
    exact st_run C0 hd0 hI hl hLI K
  · refine lv_tableIn (tgt := 865) hx hb dL_law_39 (by decide) (by decide) (off := 826) (by decide) (by decide) ?_
    exact st_wind C0 hd0 hI hl hLI K
  · refine lv_tableIn (tgt := 921) hx hb dL_law_39 (by decide) (by decide) (off := 882) (by decide) (by decide) ?_
    exact st_tape C0 hd0 hI hl hLI K
  · refine lv_tableIn (tgt := 977) hx hb dL_law_39 (by decide) (by decide) (off := 938) (by decide) (by decide) ?_
    exact st_page C0 hd0 hI hl hLI K
  · refine lv_tableIn (tgt := 1045) hx hb dL_law_39 (by decide) (by decide) (off := 1006) (by decide) (by decide) ?_
    exact st_length C0 hd0 hI hl hLI K
  · refine lv_tableIn (tgt := 1101) hx hb dL_law_39 (by decide) (by decide) (off := 1062) (by decide) (by decide) ?_
    exact st_count C0 hd0 hI hl hLI K
  · refine lv_tableIn (tgt := 1157) hx hb dL_law_39 (by decide) (by decide) (off := 1118) (by decide) (by decide) ?_
    exact st_would C0 hd0 hI hl hLI K
  · refine lv_tableIn (tgt := 1213) hx hb dL_law_39 (by decide) (by decide) (off := 1174) (by decide) (by decide) ?_
    exact st_wrong C0 hd0 hI hl hLI K
  · refine lv_tableIn (tgt := 1226) hx hb dL_law_39 (by decide) (by decide) (off := 1187) (by decide) (by decide) ?_
    exact st_idle C0 hd0 hI hl hLI K
  · refine lv_tableIn (tgt := 1239) hx hb dL_law_39 (by decide) (by decide) (off := 1200) (by decide) (by decide) ?_
    exact st_prints C0 hd0 hI hl hLI K
  · refine lv_tableIn (tgt := 1295) hx hb dL_law_39 (by decide) (by decide) (off := 1256) (by decide) (by decide) ?_
    exact st_mean C0 hd0 hI hl hLI K
  · refine lv_tableIn (tgt := 1336) hx hb dL_law_39 (by decide) (by decide) (off := 1297) (by decide) (by decide) ?_
    exact st_digest C0 hd0 hI hl hLI K
  · refine lv_tableOut (tgt := 1350) hx hb dL_law_39 (by decide) (by decide) ?_
    refine W.widen (k := 57 + (j + 1)) (n := 2023 + 6 * (j + 1)) (by omega) (by omega) ?_
    exact K d0 g H locs ls hd0 (LI.next hLI) hI (lv_sub hl [0, 1, 2, 3, 4] rfl)
  · refine lv_tableOut (tgt := 1350) hx hb dL_law_39 (by decide) (by decide) ?_
    refine W.widen (k := 57 + (j + 1)) (n := 2023 + 6 * (j + 1)) (by omega) (by omega) ?_
    exact K d0 g H locs ls hd0 (LI.next hLI) hI (lv_sub hl [0, 1, 2, 3, 4] rfl)
  · refine lv_tableOut (tgt := 1350) hx hb dL_law_39 (by decide) (by decide) ?_
    refine W.widen (k := 57 + (j + 1)) (n := 2023 + 6 * (j + 1)) (by omega) (by omega) ?_
    exact K d0 g H locs ls hd0 (LI.next hLI) hI (lv_sub hl [0, 1, 2, 3, 4] rfl)
  · refine lv_tableOut (tgt := 1350) hx hb dL_law_39 (by decide) (by decide) ?_
    refine W.widen (k := 57 + (j + 1)) (n := 2023 + 6 * (j + 1)) (by omega) (by omega) ?_
    exact K d0 g H locs ls hd0 (LI.next hLI) hI (lv_sub hl [0, 1, 2, 3, 4] rfl)
  · refine lv_tableOut (tgt := 1350) hx hb dL_law_39 (by decide) (by decide) ?_
    refine W.widen (k := 57 + (j + 1)) (n := 2023 + 6 * (j + 1)) (by omega) (by omega) ?_
    exact K d0 g H locs ls hd0 (LI.next hLI) hI (lv_sub hl [0, 1, 2, 3, 4] rfl)
  · refine lv_tableOut (tgt := 1350) hx hb dL_law_39 (by decide) (by decide) ?_
    refine W.widen (k := 57 + (j + 1)) (n := 2023 + 6 * (j + 1)) (by omega) (by omega) ?_
    exact K d0 g H locs ls hd0 (LI.next hLI) hI (lv_sub hl [0, 1, 2, 3, 4] rfl)
  · refine lv_tableOut (tgt := 1350) hx hb dL_law_39 (by decide) (by decide) ?_
    refine W.widen (k := 57 + (j + 1)) (n := 2023 + 6 * (j + 1)) (by omega) (by omega) ?_
    exact K d0 g H locs ls hd0 (LI.next hLI) hI (lv_sub hl [0, 1, 2, 3, 4] rfl)
  · refine lv_tableOut (tgt := 1350) hx hb dL_law_39 (by decide) (by decide) ?_
    refine W.widen (k := 57 + (j + 1)) (n := 2023 + 6 * (j + 1)) (by omega) (by omega) ?_
    exact K d0 g H locs ls hd0 (LI.next hLI) hI (lv_sub hl [0, 1, 2, 3, 4] rfl)
  · refine lv_tableOut (tgt := 1350) hx hb dL_law_39 (by decide) (by decide) ?_
    refine W.widen (k := 57 + (j + 1)) (n := 2023 + 6 * (j + 1)) (by omega) (by omega) ?_
    exact K d0 g H locs ls hd0 (LI.next hLI) hI (lv_sub hl [0, 1, 2, 3, 4] rfl)
/-- the script's loop -/
theorem law_loop {p : Program} {l : Launch} {e : Env} {s : State} {m : MethodId} {below : List Frame} {meth : Method} {c : Code} {b L : Nat} {xs : Nat → Int32} {Q : State → Prop} {k : mC} {A : Nat → Prop} {ad : Nat → Nat} {r : Nat → Option Nat} (hx : p.tables.exec = Jvm.exec) (hb : c.code = cL_law) (hX : va_X b L xs s s.heap) (hbl : b < s.heap.size) (hAb : ¬ A b) (hL : L ≤ 2048) (C0 : ∀ j, 4 * j + 4 ≤ L → LC p l s m meth c b L xs k A ad j)
    (hend : ∀ (d0 : Drawn) (g : Nat → va_E) (H : Heap) (locs : List Loc) (ls : Array Slot), s.drawn.sameBut d0 lw_cs → mI k ad 57 g A s H locs → W p l e room_1 (s.setDrawn d0) m #[Value.ref b] below meth c H locs 601024 7293034 Q (F0 m 1356 ls [])) :
    ∀ (n j : Nat), L < 4 * j + 4 * n → 4 * j ≤ L + 4 → ∀ (d0 : Drawn) (g : Nat → va_E) (H : Heap) (locs : List Loc) (ls : Array Slot), s.drawn.sameBut d0 lw_cs → LI k ad g r j → mI k ad 57 g A s H locs → lv_has ls 9 [(0, .ref b), (1, .ref (ad 0)), (2, .ref (ad 50)), (3, .ref (ad 56)), (4, .int (nI (4 * j)))] → W p l e room_1 (s.setDrawn d0) m #[Value.ref b] below meth c H locs (57 + j) (2023 + 6 * j) Q (F0 m 23 ls []) := by
  intro n
  induction n with
  | zero =>
    intro j hn hj d0 g H locs ls hd0 hLI hI hl
    refine lv_iload hx hb dL_law_23 (lv_at hl 4 rfl) ?_
    refine lv_aload_n hx hb dL_law_25 rfl (lv_at hl 0 rfl) ?_
    refine va_slen hx hb (show va_X b L xs (s.setDrawn d0) s.heap from hX) hbl hAb hI.2 dL_law_26 ?_
    refine lv_iconst (v := nI 4) hx hb dL_law_27 (by decide) ?_
    refine lv_isub hx hb dL_law_28 ?_
    refine lv_icmp_gt (tgt := 1356) hx hb dL_law_29 (by decide) (fun c_29 => ?_) (fun c_29 => absurd ((sub4 hL (by omega)).mpr (by omega)) c_29)
    refine W.widen (k := 601024) (n := 7293034) (by omega) (by omega) ?_
    exact hend d0 g H locs ls hd0 hI
  | succ n ih =>
    intro j hn hj d0 g H locs ls hd0 hLI hI hl
    refine lv_iload hx hb dL_law_23 (lv_at hl 4 rfl) ?_
    refine lv_aload_n hx hb dL_law_25 rfl (lv_at hl 0 rfl) ?_
    refine va_slen hx hb (show va_X b L xs (s.setDrawn d0) s.heap from hX) hbl hAb hI.2 dL_law_26 ?_
    refine lv_iconst (v := nI 4) hx hb dL_law_27 (by decide) ?_
    refine lv_isub hx hb dL_law_28 ?_
    refine lv_icmp_gt (tgt := 1356) hx hb dL_law_29 (by decide) (fun c_29 => ?_) (fun c_29 => ?_)
    · refine W.widen (k := 601024) (n := 7293034) (by omega) (by omega) ?_
      exact hend d0 g H locs ls hd0 hI
    · have hj4 : 4 * j + 4 ≤ L := by
        have h9 : ¬ L < 4 * j + 4 := fun h => c_29 ((sub4 hL (by omega)).mpr h)
        omega
      refine law_head (C0 j hj4) hd0 hI hl hLI ?_
      intro d1 g1 H1 locs1 ls1 hd1 hLI1 hI1 hl1
      refine lv_iinc (v := nI (4 * (j + 1))) (lv' := [(4, .int (nI (4 * (j + 1)))), (0, .ref b), (1, .ref (ad 0)), (2, .ref (ad 50)), (3, .ref (ad 56))]) hx hb dL_law_1350 hl1 (k := 4) rfl (nI_add (4 * j) 4) (by decide) rfl (fun ls hl => ?_)
      refine lv_goto (tgt := 23) hx hb dL_law_1353 (by decide) ?_
      exact ih (j + 1) (by omega) (by omega) d1 g1 H1 locs1 ls hd1 hLI1 hI1 (lv_sub hl [1, 2, 3, 4, 0] rfl)
theorem CR.moved {k : mC} {ad ad1 : Nat → Nat} {g g1 : Nat → va_E} {uns : Bool} {play rd n : Nat} {lat : Nat → Int32} {gar T : Nat → Nat} {y : YT PC} {r : Nat → Option Nat} (h : CR k ad g uns play rd n lat gar T y r) (ha : ∀ i, i < 50 → ad1 i = ad i) (hk : ∀ i, i < 50 → g1 i = g i) : CR k ad1 g1 uns play rd n lat gar T y r := by
  obtain ⟨h0, ⟨v1, ⟨v2, v3⟩, ⟨v4, v5⟩⟩, ⟨u1, u2, u3, u4⟩, ⟨t1, t2⟩⟩ := h
  refine ⟨by rw [hk 0 (by omega), h0, ha 1 (by omega), ha 6 (by omega), ha 48 (by omega)], ⟨by rw [hk 1 (by omega), v1, ha 2 (by omega), ha 4 (by omega)], ⟨by rw [hk 2 (by omega), v2, ha (2 + 1) (by omega)], by rw [hk (2 + 1) (by omega), v3]⟩, ⟨by rw [hk 4 (by omega), v4, ha (4 + 1) (by omega)], by rw [hk (4 + 1) (by omega), v5]⟩⟩, ⟨by rw [hk 6 (by omega), u1, ha 7 (by omega)], by rw [hk 7 (by omega), u2], fun j hj => by rw [u3 j hj, ha (8 + 2 * j) (by omega)], fun j hj => ⟨⟨by rw [hk (8 + 2 * j) (by omega), (u4 j hj).1.1, ha (8 + 2 * j + 1) (by omega)], by rw [hk (8 + 2 * j + 1) (by omega), (u4 j hj).1.2]⟩, (u4 j hj).2⟩⟩, ⟨by rw [hk 48 (by omega), t1, ha (48 + 1) (by omega)], by rw [hk (48 + 1) (by omega), t2]⟩⟩
theorem MR.moved {k : mC} {ad ad1 : Nat → Nat} {g g1 : Nat → va_E} {th : Nat} {uns : Bool} {play rd n : Nat} {lat : Nat → Int32} {gar T : Nat → Nat} {v : YT PM} (h : MR k ad g th uns play rd n lat gar T v) (ha : ∀ i, i < 56 → ad1 i = ad i) (hk : ∀ i, i < 56 → g1 i = g i) : MR k ad1 g1 th uns play rd n lat gar T v := by
  obtain ⟨h0, h1, h2, h3, h4, h5⟩ := h
  exact ⟨by rw [hk 50 (by omega), h0, ha 51 (by omega), ha 52 (by omega), ha 53 (by omega), ha 54 (by omega), ha 55 (by omega)], by rw [hk 51 (by omega), h1], by rw [hk 52 (by omega), h2], by rw [hk 53 (by omega), h3], by rw [hk 54 (by omega), h4], by rw [hk 55 (by omega), h5]⟩
set_option maxHeartbeats 8000000 in
set_option maxRecDepth 100000 in
theorem whole_start {p : Program} {e : Env} {s : State} {m : MethodId} {below : List Frame} {meth : Method} {c : Code} (l : Launch) (hflags : l.flags = flags0) {b L : Nat} {xs : Nat → Int32} (hL : L ≤ 2048) (C0 : lw_At p s m meth c b L xs) : W p l e room_1 s m #[Value.ref b] below meth c s.heap [] 0 0 (lw_Z below #[Value.ref b] s) (entryFrame m ([Value.ref b] : List Value).toArray 9) := by
  obtain ⟨hx, hb, hr, hml, hown, hts0, hX, hbl, hlocks, hgv⟩ := id C0
  have hst : l.stackTraces = false := by
    unfold Launch.stackTraces
    rw [hflags]
    first | decide +kernel | rfl
  have htsL : ∀ w ∈ wsL_law, w.before #[Value.ref b] s = true := fun w h => hts0 w (wsL_law_in w h)
  have hts := dr_words htsL s.drawn
  obtain ⟨A, hAe⟩ : ∃ A : Nat → Prop, A = mA (fun _ => 0) 0 s.heap.size := ⟨_, rfl⟩
  have hAn : ∀ a : Nat, a < s.heap.size → ¬ A a := fun a ha h => by
    rw [hAe] at h
    rcases h with ⟨i, hi, -⟩ | h
    · exact absurd hi (Nat.not_lt_zero _)
    · omega
  have hAf : ∀ a : Nat, A a → s.heap.size ≤ a := fun a h => by
    rw [hAe] at h
    rcases h with ⟨i, hi, -⟩ | h
    · exact absurd hi (Nat.not_lt_zero _)
    · exact h
  have hAi : ∀ a : Nat, s.heap.size ≤ a → A a := fun a h => by rw [hAe]; exact Or.inr h
  obtain ⟨⟨k, hK⟩, hao⟩ := law_k (A := A) hts0 hgv hAn
  have hE : mE k (fun _ => 0) 0 A (s.setDrawn s.drawn) := ⟨hK, fun i j hi => absurd hi (Nat.not_lt_zero _), fun i hi => absurd hi (Nat.not_lt_zero _), hAi⟩
  have hI : mI k (fun _ => 0) 0 (fun _ => .inr (0, [])) A (s.setDrawn s.drawn) s.heap [] := ⟨fun k q h => by simp [mw] at h, va_S.rf⟩
  have hd0 := Drawn.sameBut.refl s.drawn lw_cs
  have hAb : ¬ A b := hAn b hbl
  refine W.base ?_
  have hl := lv_entry ([.ref b]) (n := 9) (Nat.le_of_ble_eq_true rfl)
  rw [lg_entry_eq]
  generalize (lg_sl ([.ref b]) ++ List.replicate (9 - (lg_sl ([.ref b])).length) Slot.unset).toArray = ls at hl ⊢
  have hl : lv_has ls 9 [(0, .ref b)] := hl
  have hao9 : va_AO "TapePrinter$Row" (s.setDrawn s.drawn) := hao
  refine m_new (ci := 3) (C := RX3) (T := TX3) (N' := 10) (fs := [.null, .null, .null, .int (nI 0), .int (bI false), .int (bI false), .int (nI 0), .int (nI 0), .int (nI 0), .int (nI 0)]) (c1 := 1) (s1 := 10) hx hb hts inlX3 tyX3 tyX3_ok hown (hts (.classLink RL 8 RX3) (by decide +kernel)) (hts (.instantiable RX3 10) (by decide +kernel)) (hts (.initialized RX3) (by decide +kernel)) hE hI rfl (fun j hj => by have h9 : j = 0 ∨ j = 1 ∨ j = 2 ∨ j = 3 ∨ j = 4 ∨ j = 5 ∨ j = 6 ∨ j = 7 ∨ j = 8 ∨ j = 9 := (by omega); rcases h9 with rfl | rfl | rfl | rfl | rfl | rfl | rfl | rfl | rfl | rfl <;> rfl) (by omega) (by omega) (Nat.le_of_ble_eq_true rfl) (Nat.le_of_ble_eq_true rfl) dL_law_0 (fun ad1 H hag1 hE hI => ?_)
  refine lv_dup hx hb dL_law_3 rfl ?_
  refine m_callN (N := 1) (As := []) (rest := [.ref (ad1 0)]) (c1 := 50) (s1 := 1034) ⟨hx, hb, hml, hown, hts⟩ hao9 hE hI (c_X3_init k l ad1 _ _ (va_up_self _ _ _)) (cwI 0 hts gL_law_X3_init rfl rfl rfl (hts (.initialized RX3) (by decide +kernel)) (hts (.methodLink RL 73 yX3_init) (by decide +kernel)) (hts (.instanceMethod yX3_init) (by decide +kernel)) rfl (by decide +kernel) ⟨Nat.le_of_ble_eq_true rfl, Nat.le_of_ble_eq_true rfl⟩) rfl hl.1 rfl (Nat.le_of_ble_eq_true rfl) dL_law_4 (by omega) (by omega) ⟨Nat.le_of_ble_eq_true rfl, Nat.le_of_ble_eq_true rfl⟩ (fun ad2 g2 H locs hag2 hp hE hI => ?_)
  obtain ⟨r, hC⟩ := hp
  refine m_stk (show ([.ref (ad1 0)] : List Value) = [.ref (ad2 0)] from by rw [hag2 0 (by omega)]) ?_
  refine lv_astore_n (lv' := [(1, .ref (ad2 0)), (0, .ref b)]) hx hb dL_law_7 rfl hl (by decide) rfl (fun ls hl => ?_)
  refine m_new (ci := 4) (C := RX4) (T := TX4) (N' := 16) (fs := [.int (nI 0), .int (bI false), .int (bI false), .int (nI 0), .int (nI 0), .null, .null, .null, .null, .null, .int (nI 0), .int (nI 0), .int (nI 0), .int (nI 0), .int (nI 0), .int (nI 0)]) (c1 := 51) (s1 := 1050) hx hb hts inlX4 tyX4 tyX4_ok hown (hts (.classLink RL 74 RX4) (by decide +kernel)) (hts (.instantiable RX4 16) (by decide +kernel)) (hts (.initialized RX4) (by decide +kernel)) hE hI rfl (fun j hj => by have h9 : j = 0 ∨ j = 1 ∨ j = 2 ∨ j = 3 ∨ j = 4 ∨ j = 5 ∨ j = 6 ∨ j = 7 ∨ j = 8 ∨ j = 9 ∨ j = 10 ∨ j = 11 ∨ j = 12 ∨ j = 13 ∨ j = 14 ∨ j = 15 := (by omega); rcases h9 with rfl | rfl | rfl | rfl | rfl | rfl | rfl | rfl | rfl | rfl | rfl | rfl | rfl | rfl | rfl | rfl <;> rfl) (by omega) (by omega) (Nat.le_of_ble_eq_true rfl) (Nat.le_of_ble_eq_true rfl) dL_law_8 (fun ad3 H hag3 hE hI => ?_)
  refine lv_dup hx hb dL_law_11 rfl ?_
  refine m_callN (N := 51) (As := []) (rest := [.ref (ad3 50)]) (c1 := 56) (s1 := 2022) ⟨hx, hb, hml, hown, hts⟩ hao9 hE hI (c_X4_init k l ad3 _ _ (va_up_self _ _ _)) (cwI 0 hts gL_law_X4_init rfl rfl rfl (hts (.initialized RX4) (by decide +kernel)) (hts (.methodLink RL 76 yX4_init) (by decide +kernel)) (hts (.instanceMethod yX4_init) (by decide +kernel)) rfl (by decide +kernel) ⟨Nat.le_of_ble_eq_true rfl, Nat.le_of_ble_eq_true rfl⟩) rfl hl.1 rfl (Nat.le_of_ble_eq_true rfl) dL_law_12 (by omega) (by omega) ⟨Nat.le_of_ble_eq_true rfl, Nat.le_of_ble_eq_true rfl⟩ (fun ad4 g4 H locs hag4 hp hE hI => ?_)
  obtain ⟨hM, hk4⟩ := hp
  refine m_stk (show ([.ref (ad3 50)] : List Value) = [.ref (ad4 50)] from by rw [hag4 50 (by omega)]) ?_
  refine lv_astore_n (lv' := [(2, .ref (ad4 50)), (1, .ref (ad2 0)), (0, .ref b)]) hx hb dL_law_15 rfl hl (by decide) rfl (fun ls hl => ?_)
  refine lv_iconst (v := nI 1) hx hb dL_law_16 (by decide) ?_
  refine m_newl (n := 1) (c1 := 57) (s1 := 2023) hx hb (hts (.arrayClass .long) (by decide +kernel)) hE hI (by omega) (by omega) (by omega) (Nat.le_of_ble_eq_true rfl) (Nat.le_of_ble_eq_true rfl) dL_law_17 (fun ad5 H hag5 hE hI => ?_)
  refine lv_astore_n (lv' := [(3, .ref (ad5 56)), (2, .ref (ad4 50)), (1, .ref (ad2 0)), (0, .ref b)]) hx hb dL_law_19 rfl hl (by decide) rfl (fun ls hl => ?_)
  refine lv_iconst (v := nI 0) hx hb dL_law_20 (by decide) ?_
  refine lv_istore (lv' := [(4, .int (nI 0)), (3, .ref (ad5 56)), (2, .ref (ad4 50)), (1, .ref (ad2 0)), (0, .ref b)]) hx hb dL_law_21 hl (by decide) rfl (fun ls hl => ?_)
  have hE5 : mE k ad5 57 A s := hE
  have hC5 := CR.moved hC (ad1 := ad5) (g1 := va_up g4 56 (.inl (k.2.1.2.2, 1, .inr (.inl (fun _ => 0))))) (fun i hi => by rw [hag5 i (by omega), hag4 i (by omega), hag3 i (by omega)]) (fun i hi => by rw [va_up_ne _ _ (by omega), hk4 i (by omega), va_up_ne _ _ (by omega)])
  have hM5 := MR.moved hM (ad1 := ad5) (g1 := va_up g4 56 (.inl (k.2.1.2.2, 1, .inr (.inl (fun _ => 0))))) (fun i hi => hag5 i hi) (fun i hi => va_up_ne _ _ (by omega))
  have hl : lv_has ls 9 [(0, .ref b), (1, .ref (ad5 0)), (2, .ref (ad5 50)), (3, .ref (ad5 56)), (4, .int (nI (4 * 0)))] := by
    rw [hag5 0 (by omega), hag5 50 (by omega), hag4 0 (by omega), hag3 0 (by omega)]
    exact lv_sub hl [4, 3, 2, 1, 0] rfl
  refine law_loop (k := k) (A := A) (ad := ad5) (r := r) (L := L) (xs := xs) hx hb hX hbl hAb hL (fun j hj => ⟨hx, hb, hml, hown, htsL, hst, hX, hbl, hAb, fun d => mE.drawn hE5 d, hL, hj⟩) ?_ 513 0 (by omega) (by omega) s.drawn _ H locs ls hd0 ?_ hI hl
  · intro d0 g H locs ls hd0 hI
    refine lv_iconst (v := 1) hx hb dL_law_1356 (by decide) ?_
    refine va_forget (fun q hq => hAf _ (hI.2.2.2 q hq)) ?_
    exact lw_ret hd0 hx hb hr hlocks dL_law_1357
  · exact ⟨false, 0, 0, 0, fun _ => nI 0, fun _ => 0, fun _ => 0, (0, nI 0, nI 0, nI 0, false, 0, 1, (fun _ => 0), (fun _ _ => 0)), (0, nI 0, nI 0, nI 0, false, 1, (fun _ => 0), (fun _ => 0)), 0, fun _ => 0, hC5, hM5, ⟨rfl, rfl, rfl, rfl, rfl, rfl, fun l hl => rfl, fun l hl i hi => rfl⟩,
      ⟨by omega, by omega, by omega, fun j hj => show 0 < 32 by decide, fun j => show 0 < 32 by decide, fun j => show -9 ≤ nI 0 ∧ nI 0 ≤ 9 by decide⟩, ⟨by decide, by decide, by decide⟩, ⟨by decide, by decide, fun j hj => show 0 ≤ 40 by decide⟩, Nat.zero_le _, va_up_self _ _ _⟩
