/-! The law: one step of the script. -/
theorem MR.kept {k : mC} {ad : Nat → Nat} {g g1 : Nat → va_E} {th : Nat} {uns : Bool} {play rd n : Nat} {lat : Nat → Int32} {gar T : Nat → Nat} {v : YT PM} (h : MR k ad g th uns play rd n lat gar T v) (hk : ∀ i, 50 ≤ i → i < 56 → g1 i = g i) : MR k ad g1 th uns play rd n lat gar T v :=
  ⟨(hk 50 (by omega) (by omega)).trans h.1, (hk 51 (by omega) (by omega)).trans h.2.1, (hk 52 (by omega) (by omega)).trans h.2.2.1, (hk 53 (by omega) (by omega)).trans h.2.2.2.1, (hk 54 (by omega) (by omega)).trans h.2.2.2.2.1, (hk 55 (by omega) (by omega)).trans h.2.2.2.2.2⟩
theorem in9_in {x : Int32} (h : in9 x = true) : -9 ≤ x ∧ x ≤ 9 := by
  unfold in9 at h
  rw [Bool.and_eq_true, decide_eq_true_eq, decide_eq_true_eq] at h
  exact h
theorem inN_tn {x : Int32} {n : Nat} (h : inN x n = true) (hn : n < 2147483648) : tn x < n := by
  obtain ⟨j, hj, rfl⟩ := inN_ex h hn
  rw [tn_nI (by omega)]
  exact hj
theorem inC_tn {x : Int32} (h : inC x = true) : tn x < 55 := by
  obtain ⟨j, h1, hj, rfl⟩ := inC_ex h
  rw [tn_nI (by omega)]
  omega
/-- at the head of the script's loop: the two machines side by side -/
def LI (k : mC) (ad : Nat → Nat) (g : Nat → va_E) (r : Nat → Option Nat) (j : Nat) : Prop :=
  ∃ (uns : Bool) (play rd n : Nat) (lat : Nat → Int32) (gar T : Nat → Nat) (y : YT PC) (v : YT PM) (th : Nat) (fo : Nat → Int64), CR k ad g uns play rd n lat gar T y r ∧ MR k ad g th uns play rd n lat gar T v ∧ YR y v ∧ CW play rd n lat gar T ∧ cWf y.2.2.2.2.2 ∧ mWf v.2.2.2.2.2 ∧ y.1 ≤ 120 * j ∧ g 56 = .inl (k.2.1.2.2, 1, .inr (.inl fo))
/-- what stays all through the law -/
def LC (p : Program) (l : Launch) (s : State) (m : MethodId) (meth : Method) (c : Code) (b L : Nat) (xs : Nat → Int32) (k : mC) (A : Nat → Prop) (ad : Nat → Nat) (j : Nat) : Prop :=
  p.tables.exec = Jvm.exec ∧ c.code = cL_law ∧ c.maxLocals = 9 ∧ s.vm.findClass RL = some m.cls ∧ (∀ w ∈ wsL_law, w.before #[Value.ref b] s = true) ∧ l.stackTraces = false ∧ va_X b L xs s s.heap ∧ b < s.heap.size ∧ ¬ A b ∧ (∀ d : Drawn, mE k ad 57 A (s.setDrawn d)) ∧ L ≤ 2048 ∧ 4 * j + 4 ≤ L
/-- behind the step: the loop's foot -/
def LK (p : Program) (l : Launch) (e : Env) (s : State) (m : MethodId) (below : List Frame) (meth : Method) (c : Code) (b : Nat) (Q : State → Prop) (k : mC) (A : Nat → Prop) (ad : Nat → Nat) (r : Nat → Option Nat) (j : Nat) : Prop :=
  ∀ (d0 : Drawn) (g : Nat → va_E) (H : Heap) (locs : List Loc) (ls : Array Slot), s.drawn.sameBut d0 lw_cs → LI k ad g r (j + 1) → mI k ad 57 g A s H locs → lv_has ls 9 [(0, .ref b), (1, .ref (ad 0)), (2, .ref (ad 50)), (3, .ref (ad 56)), (4, .int (nI (4 * j)))] → W p l e room_1 (s.setDrawn d0) m #[Value.ref b] below meth c H locs (57 + (j + 1)) (2023 + 6 * (j + 1)) Q (F0 m 1350 ls [])
section ML
variable {p : Program} {l : Launch} {e : Env} {R : Room} {s : State} {m : MethodId} {args : Array Value} {below : List Frame} {meth : Method} {c : Code} {H : Heap} {locs : List Loc} {cells slots : Nat} {Q : State → Prop}
variable {cc : ByteArray} {pc : Nat} {ls : Array Slot} {rest : List Value} {k : mC} {ad : Nat → Nat} {N : Nat} {g : Nat → va_E} {A : Nat → Prop}
variable {y : MethodName} {bytes : ByteArray} {maxL nL n index : Nat} {ret : Option FieldType} {ws : List Cond} {rm : Room} {Ts : List Cond} {own C : String} {As : List Value} {st0 : List Value}
theorem m_callSL (hfix : CallFix p m c cc nL s args Ts own) (hE : mE k ad N A s) (hI : mI k ad N g A s H locs) {post : Int32 → (Nat → va_E) → Prop} (hM : Met l y ws rm (mPc k ad N g H.size As) (va_Qi post (mB k ad N) (mA ad N H.size)) 1 6 (mA ad N H.size)) {hh : List (Nat × Nat × Nat × Nat)} (cw : vx_CSW R s args own index y bytes maxL ret hh ws rm 1 6 n)
    (hn : As.length = n) (hsize : ls.size = nL) (hst : st0 = As.reverse ++ rest) (hW : (rest.map fun v => v.category).sum ≤ 8) (hdg : decode cc pc = .ok (.invokestatic index, 3)) (hf : cells + 1 ≤ R.cells ∧ slots + 6 ≤ R.slots)
    (kk : ∀ (r : Int32) (g : Nat → va_E) (H : Heap) (locs : List Loc), post r g → mI k ad N g A s H locs → W p l e R s m args below meth c H locs (cells + 1) (slots + 6) Q (F0 m (pc + 3) ls (.int r :: rest))) : W p l e R s m args below meth c H locs cells slots Q (F0 m pc ls st0) :=
  va_calli (vx_runSW (As := As) (rest := rest) hfix hM cw (m_preS hE hI) rfl hn hsize hst (lv_room hW) hdg hf) hI.2 (fun q _ h => mA_sub hE hI q h) (mA_sub hE hI) (fun r g' t H1 locs1 ht hvm hp hB hz hk hS => kk r g' H1 locs1 hp ⟨by rw [← ht]; exact hB, hS⟩)
end ML

theorem PgR_page {fi u : Nat} {z : Nat → Nat} {F : Nat → Nat → Nat} {ln pg : Nat → Nat} (h : PgR (fi, u, z, F) (u, ln, pg)) (hu : u ≤ 20) {p0 p1 : Int32} : (inN p0 u && inN p1 (z (slt fi (tn p0)))) = (inN p0 u && inN p1 (ln (tn p0))) := by
  have h2 : ∀ l, l < u → z (slt fi l) = ln l := h.2.1
  cases h0 : inN p0 u with
  | false => rw [Bool.false_and, Bool.false_and]
  | true => rw [h2 (tn p0) (inN_tn h0 (by omega))]
theorem PgR_at {fi u : Nat} {z : Nat → Nat} {F : Nat → Nat → Nat} {ln pg : Nat → Nat} (h : PgR (fi, u, z, F) (u, ln, pg)) (hu : u ≤ 20) {p0 p1 : Int32} (hm : mWf (u, ln, pg)) (ho : (inN p0 u && inN p1 (ln (tn p0))) = true) : F (slt fi (tn p0)) (tn p1) = pg (40 * tn p0 + tn p1) := by
  have h3 : ∀ l, l < u → ∀ i, i < ln l → F (slt fi l) i = pg (40 * l + i) := h.2.2
  have hln : ∀ j, j < 20 → ln j ≤ 40 := hm.2.2
  obtain ⟨o1, o2⟩ := Bool.and_eq_true_iff.mp ho
  have t0 := inN_tn o1 (by omega)
  have t1 := hln (tn p0) (by omega)
  exact h3 (tn p0) t0 (tn p1) (inN_tn o2 (by omega))
set_option maxHeartbeats 8000000 in
set_option maxRecDepth 100000 in
theorem st_code {p : Program} {l : Launch} {e : Env} {s : State} {m : MethodId} {below : List Frame} {meth : Method} {c : Code} {b L : Nat} {xs : Nat → Int32} {Q : State → Prop} {k : mC} {A : Nat → Prop} {ad : Nat → Nat} {r : Nat → Option Nat} {j : Nat} (C0 : LC p l s m meth c b L xs k A ad j) {d0 : Drawn} (hd0 : s.drawn.sameBut d0 lw_cs) {g : Nat → va_E} {H : Heap} {locs : List Loc} {ls : Array Slot} (hI : mI k ad 57 g A s H locs) (hl : lv_has ls 9 [(0, .ref b), (1, .ref (ad 0)), (2, .ref (ad 50)), (3, .ref (ad 56)), (4, .int (nI (4 * j)))]) (hLI : LI k ad g r j) (K : LK p l e s m below meth c b Q k A ad r j) : W p l e room_1 (s.setDrawn d0) m #[Value.ref b] below meth c H locs (57 + j) (2023 + 6 * j) Q (F0 m 144 ls []) := by
  obtain ⟨hx, hb, hml, hown, htsL, hst, hX, hbl, hAb, hEd, hL, hj4⟩ := C0
  have hts := dr_words htsL d0
  have hE := hEd d0
  have hX : va_X b L xs (s.setDrawn d0) s.heap := hX
  obtain ⟨uns, play, rd, n, lat, gar, T, ⟨came, mis, lost, bel, fig, fi, u, z, F⟩, ⟨came', mis', lost', bel', fig', u', ln, pg⟩, th, fo, hC, hM, ⟨e1, e2, e3, e4, e5, e6, hR2, hR3⟩, hW, hwf, hmw, hcj, h56⟩ := hLI
  have f1 : came = came' := e1
  have f2 : mis = mis' := e2
  have f3 : lost = lost' := e3
  have f4 : bel = bel' := e4
  have f5 : fig = fig' := e5
  have f6 : u = u' := Eq.symm e6
  clear e1 e2 e3 e4 e5 e6
  subst f1 f2 f3 f4 f5 f6
  have hR : PgR (fi, u, z, F) (u, ln, pg) := ⟨rfl, hR2, hR3⟩
  have hR2 : ∀ l, l < u → z (slt fi l) = ln l := hR2
  have hR3 : ∀ l, l < u → ∀ i, i < ln l → F (slt fi l) i = pg (40 * l + i) := hR3
  have hC : CR k ad g uns play rd n lat gar T (came, mis, lost, bel, fig, fi, u, z, F) r := hC
  have hM : MR k ad g th uns play rd n lat gar T (came, mis, lost, bel, fig, u, ln, pg) := hM
  have hwf : cWf (fi, u, z, F) := hwf
  have hmw : mWf (u, ln, pg) := hmw
  have hcj : came ≤ 120 * j := hcj
  have hcame : came < 2000000000 := by omega
  have hu20 : u ≤ 20 := hmw.2.1
  have hn120 : n ≤ 120 := hW.2.2.1
  have hrdn : rd ≤ n := hW.2.1
  have hpl9 : play ≤ 9 := hW.1
  have hY : YR (came, mis, lost, bel, fig, fi, u, z, F) (came, mis, lost, bel, fig, u, ln, pg) := ⟨rfl, rfl, rfl, rfl, rfl, hR⟩
  refine lv_aload_n hx hb dL_law_144 rfl (lv_at hl 1 rfl) ?_
  refine lv_aload_n hx hb dL_law_145 rfl (lv_at hl 0 rfl) ?_
  refine lv_iload hx hb dL_law_146 (lv_at hl 4 rfl) ?_
  refine lv_iconst (v := nI 1) hx hb dL_law_148 (by decide) ?_
  refine m_iaddN hx hb dL_law_149 ?_
  refine va_sld hx hb hX hbl hAb hI.2 (vp_in_nI (n := (4 * j) + 1) (by omega) (by omega)) dL_law_150 ?_
  refine m_top (y := xs ((4 * j) + 1)) (by rw [nI_clamp (by omega)]) ?_
  refine lv_aload_n hx hb dL_law_151 rfl (lv_at hl 3 rfl) ?_
  obtain ⟨p0, hp0⟩ : ∃ zz, zz = xs ((4 * j) + 1) := ⟨_, rfl⟩
  refine m_stk (show ([.ref (ad 56), .int (xs ((4 * j) + 1)), .ref (ad 0)] : List Value) = [.ref (ad 56), .int p0, .ref (ad 0)] from by rw [hp0]) ?_
  refine m_callSL (As := [.ref (ad 0), .int p0, .ref (ad 56)]) (rest := []) ⟨hx, hb, hml, hown, hts⟩ hE hI (c_L_code k l hst ad 57 g _ uns play rd n lat gar T came mis lost bel fig fi u z F r p0 fo (by omega) hW hwf hcame hC h56) (vx_cwSW 3 hts gL_law_L_code rfl rfl rfl (by decide +kernel) ⟨Nat.le_of_ble_eq_true rfl, Nat.le_of_ble_eq_true rfl⟩) rfl hl.1 rfl (Nat.le_of_ble_eq_true rfl) dL_law_152 ⟨by show 57 + j + 1 ≤ 601024; omega, by show 2023 + 6 * j + 6 ≤ 7293034; omega⟩ (fun r9 g9 H locs hp hI => ?_)
  rcases hp with ⟨hr9, hok0, ⟨fo1, h561, hfo1⟩, hC9, hk9⟩ | ⟨hr9, hba0, hgg⟩
  · subst hr9
    have hM9 : MR k ad g9 th uns play rd n lat gar T (came, mis, lost, bel, fig, u, ln, pg) := MR.kept hM (fun i h1 h2 => hk9 i (by omega) (by omega))
    refine lv_istore (lv' := [(5, .int (nI 0)), (0, .ref b), (1, .ref (ad 0)), (2, .ref (ad 50)), (3, .ref (ad 56)), (4, .int (nI (4 * j)))]) hx hb dL_law_155 hl (by decide) rfl (fun ls hl => ?_)
    refine lv_aload_n hx hb dL_law_157 rfl (lv_at hl 3 rfl) ?_
    refine lv_aload_n hx hb dL_law_158 rfl (lv_at hl 1 rfl) ?_
    refine lv_iload hx hb dL_law_159 (lv_at hl 5 rfl) ?_
    refine lv_iconst (v := nI 1) hx hb dL_law_161 (by decide) ?_
    refine m_iaddN hx hb dL_law_162 ?_
    refine va_sld hx hb hX hbl hAb hI.2 (vp_in_nI (n := (4 * j) + 1) (by omega) (by omega)) dL_law_163 ?_
    refine m_top (y := xs ((4 * j) + 1)) (by rw [nI_clamp (by omega)]) ?_
    refine m_stk (show ([.int (xs ((4 * j) + 1)), .ref (ad 50)] : List Value) = [.int p0, .ref (ad 50)] from by rw [hp0]) ?_
    refine m_callVi (As := [.int p0]) (rest := []) ⟨hx, hb, hml, hown, hts⟩ hE hI (c_X4_code k l ad 57 g9 _ th uns play rd n lat gar T came mis lost bel fig u ln pg p0 (by omega) hW hmw hcame hM9) (cwV 1 hts gL_law_X4_code rfl rfl rfl (by decide +kernel) ⟨Nat.le_of_ble_eq_true rfl, Nat.le_of_ble_eq_true rfl⟩) (i := 50) (by omega) hM9.1 rfl rfl hl.1 rfl (Nat.le_of_ble_eq_true rfl) dL_law_164 ⟨by show 57 + j + 1 ≤ 601024; omega, by show 2023 + 6 * j + 6 ≤ 7293034; omega⟩ (fun r9 g4 H locs hp hI => ?_)
    obtain ⟨hp, hk4⟩ := hp
    rcases hp with ⟨hxo0, hr4, hM4⟩ | ⟨hxb0, hM4⟩
    · subst hr4
      have hC4 : CR k ad g4 uns play rd n lat gar T (came, mis, lost, bel, fig, fi, u, z, F) r := CR.kept hC9 (fun i hi => hk4 i (Or.inl hi))
      have h564 : g4 56 = .inl (k.2.1.2.2, 1, .inr (.inl fo1)) := (hk4 56 (by omega)).trans h561
      have hW4 : CW play rd n lat gar T := hW
      refine lv_istore (lv' := [(6, .int (nI (cd (tn p0)))), (5, .int (nI 0)), (0, .ref b), (1, .ref (ad 0)), (2, .ref (ad 50)), (3, .ref (ad 56)), (4, .int (nI (4 * j)))]) hx hb dL_law_167 hl (by decide) rfl (fun ls hl => ?_)
      refine lv_aload_n hx hb dL_law_169 rfl (lv_at hl 4 rfl) ?_
      refine m_callVi (As := []) (rest := []) ⟨hx, hb, hml, hown, hts⟩ hE hI (c_X4_thrown k l ad 57 g4 _ 0 uns play rd n lat gar T came mis lost bel fig u ln pg (by omega) hW4 hmw (by omega) hM4) (cwV 0 hts gL_law_X4_thrown rfl rfl rfl (by decide +kernel) ⟨Nat.le_of_ble_eq_true rfl, Nat.le_of_ble_eq_true rfl⟩) (i := 50) (by omega) hM4.1 rfl rfl hl.1 rfl (Nat.le_of_ble_eq_true rfl) dL_law_170 ⟨by show 57 + j + 1 ≤ 601024; omega, by show 2023 + 6 * j + 6 ≤ 7293034; omega⟩ (m_deti (fun H locs hI => ?_))
      refine lv_iload hx hb dL_law_173 (lv_at hl 1 rfl) ?_
      refine m_ceqN (tgt := 180) hx hb (by omega) (by omega) dL_law_175 (by decide) (fun c_175 => ?_) (fun c => absurd c (by decide))
      refine lv_iload hx hb dL_law_180 (lv_at hl 1 rfl) ?_
      refine m_zneN (tgt := 197) hx hb (by omega) dL_law_182 (by decide) (fun c => absurd c (by decide)) (fun c_182 => ?_)
      refine lv_aload_n hx hb dL_law_185 rfl (lv_at hl 5 rfl) ?_
      refine lv_iconst (v := nI 0) hx hb dL_law_186 (by decide) ?_
      refine m_lald hx hb hE hI 56 (by omega) (j := 0) h564 (by omega) (by omega) dL_law_187 ?_
      refine lv_iload hx hb dL_law_188 (lv_at hl 0 rfl) ?_
      refine lv_i2l (v := (nI (cd (tn p0))).toInt64) hx hb dL_law_190 rfl ?_
      refine W.lcmp hx hb dL_law_191 ?_
      refine m_top (y := nI 0) (show lg_cmp (fo1 0) ((nI (cd (tn p0))).toInt64) = nI 0 from by rw [nI_0]; refine (lg_cmp_eq _ _).mpr ?_; rw [hfo1]) ?_
      refine m_zeqN (tgt := 197) hx hb (by omega) dL_law_192 (by decide) (fun c_192 => ?_) (fun c => absurd c (by decide))
      refine lv_goto (tgt := 1350) hx hb dL_law_197 (by decide) ?_
      refine m_cs (c1 := 57 + (j + 1)) (s1 := 2023 + 6 * (j + 1)) (by omega) (by omega) ?_
      exact K d0 g4 H locs ls hd0 ⟨_, _, _, _, _, _, _, _, _, _, _, hC4, hM4, hY, hW4, hwf, hmw, (by show came ≤ 120 * (j + 1); omega), h564⟩ hI (lv_sub hl [2, 3, 4, 5, 6] rfl)
    · exact absurd (hok0.symm.trans hxb0) (by decide)
  · subst hr9
    rw [hgg] at hI
    refine lv_istore (lv' := [(5, .int (nI 1)), (0, .ref b), (1, .ref (ad 0)), (2, .ref (ad 50)), (3, .ref (ad 56)), (4, .int (nI (4 * j)))]) hx hb dL_law_155 hl (by decide) rfl (fun ls hl => ?_)
    refine lv_aload_n hx hb dL_law_157 rfl (lv_at hl 3 rfl) ?_
    refine lv_aload_n hx hb dL_law_158 rfl (lv_at hl 1 rfl) ?_
    refine lv_iload hx hb dL_law_159 (lv_at hl 5 rfl) ?_
    refine lv_iconst (v := nI 1) hx hb dL_law_161 (by decide) ?_
    refine m_iaddN hx hb dL_law_162 ?_
    refine va_sld hx hb hX hbl hAb hI.2 (vp_in_nI (n := (4 * j) + 1) (by omega) (by omega)) dL_law_163 ?_
    refine m_top (y := xs ((4 * j) + 1)) (by rw [nI_clamp (by omega)]) ?_
    refine m_stk (show ([.int (xs ((4 * j) + 1)), .ref (ad 50)] : List Value) = [.int p0, .ref (ad 50)] from by rw [hp0]) ?_
    refine m_callVi (As := [.int p0]) (rest := []) ⟨hx, hb, hml, hown, hts⟩ hE hI (c_X4_code k l ad 57 g _ th uns play rd n lat gar T came mis lost bel fig u ln pg p0 (by omega) hW hmw hcame hM) (cwV 1 hts gL_law_X4_code rfl rfl rfl (by decide +kernel) ⟨Nat.le_of_ble_eq_true rfl, Nat.le_of_ble_eq_true rfl⟩) (i := 50) (by omega) hM.1 rfl rfl hl.1 rfl (Nat.le_of_ble_eq_true rfl) dL_law_164 ⟨by show 57 + j + 1 ≤ 601024; omega, by show 2023 + 6 * j + 6 ≤ 7293034; omega⟩ (fun r9 g4 H locs hp hI => ?_)
    obtain ⟨hp, hk4⟩ := hp
    rcases hp with ⟨hxo0, hr4, hM4⟩ | ⟨hxb0, hM4⟩
    · exact absurd (hxo0.symm.trans hba0) (by decide)
    · refine lv_istore (lv' := [(6, .int r9), (5, .int (nI 1)), (0, .ref b), (1, .ref (ad 0)), (2, .ref (ad 50)), (3, .ref (ad 56)), (4, .int (nI (4 * j)))]) hx hb dL_law_167 hl (by decide) rfl (fun ls hl => ?_)
      refine lv_aload_n hx hb dL_law_169 rfl (lv_at hl 4 rfl) ?_
      refine m_callVi (As := []) (rest := []) ⟨hx, hb, hml, hown, hts⟩ hE hI (c_X4_thrown k l ad 57 g4 _ 1 uns play rd n lat gar T came mis lost bel fig u ln pg (by omega) hW hmw (by omega) hM4) (cwV 0 hts gL_law_X4_thrown rfl rfl rfl (by decide +kernel) ⟨Nat.le_of_ble_eq_true rfl, Nat.le_of_ble_eq_true rfl⟩) (i := 50) (by omega) hM4.1 rfl rfl hl.1 rfl (Nat.le_of_ble_eq_true rfl) dL_law_170 ⟨by show 57 + j + 1 ≤ 601024; omega, by show 2023 + 6 * j + 6 ≤ 7293034; omega⟩ (m_deti (fun H locs hI => ?_))
      refine lv_iload hx hb dL_law_173 (lv_at hl 1 rfl) ?_
      refine m_ceqN (tgt := 180) hx hb (by omega) (by omega) dL_law_175 (by decide) (fun c_175 => ?_) (fun c => absurd c (by decide))
      refine lv_iload hx hb dL_law_180 (lv_at hl 1 rfl) ?_
      refine m_zneN (tgt := 197) hx hb (by omega) dL_law_182 (by decide) (fun c_182 => ?_) (fun c => absurd c (by decide))
      refine lv_goto (tgt := 1350) hx hb dL_law_197 (by decide) ?_
      refine m_cs (c1 := 57 + (j + 1)) (s1 := 2023 + 6 * (j + 1)) (by omega) (by omega) ?_
      exact K d0 g4 H locs ls hd0 ⟨_, _, _, _, _, _, _, _, _, _, _, CR.kept hC (fun i hi => hk4 i (Or.inl hi)), hM4, hY, hW, hwf, hmw, (by show came ≤ 120 * (j + 1); omega), (hk4 56 (by omega)).trans h56⟩ hI (lv_sub hl [2, 3, 4, 5, 6] rfl)
set_option maxHeartbeats 8000000 in
set_option maxRecDepth 100000 in
theorem st_character {p : Program} {l : Launch} {e : Env} {s : State} {m : MethodId} {below : List Frame} {meth : Method} {c : Code} {b L : Nat} {xs : Nat → Int32} {Q : State → Prop} {k : mC} {A : Nat → Prop} {ad : Nat → Nat} {r : Nat → Option Nat} {j : Nat} (C0 : LC p l s m meth c b L xs k A ad j) {d0 : Drawn} (hd0 : s.drawn.sameBut d0 lw_cs) {g : Nat → va_E} {H : Heap} {locs : List Loc} {ls : Array Slot} (hI : mI k ad 57 g A s H locs) (hl : lv_has ls 9 [(0, .ref b), (1, .ref (ad 0)), (2, .ref (ad 50)), (3, .ref (ad 56)), (4, .int (nI (4 * j)))]) (hLI : LI k ad g r j) (K : LK p l e s m below meth c b Q k A ad r j) : W p l e room_1 (s.setDrawn d0) m #[Value.ref b] below meth c H locs (57 + j) (2023 + 6 * j) Q (F0 m 200 ls []) := by
  obtain ⟨hx, hb, hml, hown, htsL, hst, hX, hbl, hAb, hEd, hL, hj4⟩ := C0
  have hts := dr_words htsL d0
  have hE := hEd d0
  have hX : va_X b L xs (s.setDrawn d0) s.heap := hX
  obtain ⟨uns, play, rd, n, lat, gar, T, ⟨came, mis, lost, bel, fig, fi, u, z, F⟩, ⟨came', mis', lost', bel', fig', u', ln, pg⟩, th, fo, hC, hM, ⟨e1, e2, e3, e4, e5, e6, hR2, hR3⟩, hW, hwf, hmw, hcj, h56⟩ := hLI
  have f1 : came = came' := e1
  have f2 : mis = mis' := e2
  have f3 : lost = lost' := e3
  have f4 : bel = bel' := e4
  have f5 : fig = fig' := e5
  have f6 : u = u' := Eq.symm e6
  clear e1 e2 e3 e4 e5 e6
  subst f1 f2 f3 f4 f5 f6
  have hR : PgR (fi, u, z, F) (u, ln, pg) := ⟨rfl, hR2, hR3⟩
  have hR2 : ∀ l, l < u → z (slt fi l) = ln l := hR2
  have hR3 : ∀ l, l < u → ∀ i, i < ln l → F (slt fi l) i = pg (40 * l + i) := hR3
  have hC : CR k ad g uns play rd n lat gar T (came, mis, lost, bel, fig, fi, u, z, F) r := hC
  have hM : MR k ad g th uns play rd n lat gar T (came, mis, lost, bel, fig, u, ln, pg) := hM
  have hwf : cWf (fi, u, z, F) := hwf
  have hmw : mWf (u, ln, pg) := hmw
  have hcj : came ≤ 120 * j := hcj
  have hcame : came < 2000000000 := by omega
  have hu20 : u ≤ 20 := hmw.2.1
  have hn120 : n ≤ 120 := hW.2.2.1
  have hrdn : rd ≤ n := hW.2.1
  have hpl9 : play ≤ 9 := hW.1
  have hY : YR (came, mis, lost, bel, fig, fi, u, z, F) (came, mis, lost, bel, fig, u, ln, pg) := ⟨rfl, rfl, rfl, rfl, rfl, hR⟩
  refine lv_aload_n hx hb dL_law_200 rfl (lv_at hl 1 rfl) ?_
  refine lv_aload_n hx hb dL_law_201 rfl (lv_at hl 0 rfl) ?_
  refine lv_iload hx hb dL_law_202 (lv_at hl 4 rfl) ?_
  refine lv_iconst (v := nI 1) hx hb dL_law_204 (by decide) ?_
  refine m_iaddN hx hb dL_law_205 ?_
  refine va_sld hx hb hX hbl hAb hI.2 (vp_in_nI (n := (4 * j) + 1) (by omega) (by omega)) dL_law_206 ?_
  refine m_top (y := xs ((4 * j) + 1)) (by rw [nI_clamp (by omega)]) ?_
  refine lv_aload_n hx hb dL_law_207 rfl (lv_at hl 0 rfl) ?_
  refine lv_iload hx hb dL_law_208 (lv_at hl 4 rfl) ?_
  refine lv_iconst (v := nI 2) hx hb dL_law_210 (by decide) ?_
  refine m_iaddN hx hb dL_law_211 ?_
  refine va_sld hx hb hX hbl hAb hI.2 (vp_in_nI (n := (4 * j) + 2) (by omega) (by omega)) dL_law_212 ?_
  refine m_top (y := xs ((4 * j) + 2)) (by rw [nI_clamp (by omega)]) ?_
  refine lv_if_eq (tgt := 220) hx hb dL_law_213 (by decide) (fun c_213 => ?_) (fun c_213 => ?_)
  · refine lv_iconst (v := nI 0) hx hb dL_law_220 (by decide) ?_
    refine m_top (y := bI false) (by decide) ?_
    refine lv_aload_n hx hb dL_law_221 rfl (lv_at hl 3 rfl) ?_
    obtain ⟨p0, hp0⟩ : ∃ zz, zz = xs ((4 * j) + 1) := ⟨_, rfl⟩
    refine m_stk (show ([.ref (ad 56), .int (bI false), .int (xs ((4 * j) + 1)), .ref (ad 0)] : List Value) = [.ref (ad 56), .int (bI false), .int p0, .ref (ad 0)] from by rw [hp0]) ?_
    refine m_callSL (As := [.ref (ad 0), .int p0, .int (bI false), .ref (ad 56)]) (rest := []) ⟨hx, hb, hml, hown, hts⟩ hE hI (c_L_character k l hst ad 57 g _ uns play rd n lat gar T came mis lost bel fig fi u z F r p0 false fo (by omega) hW hwf hcame hC h56) (vx_cwSW 4 hts gL_law_L_character rfl rfl rfl (by decide +kernel) ⟨Nat.le_of_ble_eq_true rfl, Nat.le_of_ble_eq_true rfl⟩) rfl hl.1 rfl (Nat.le_of_ble_eq_true rfl) dL_law_222 ⟨by show 57 + j + 1 ≤ 601024; omega, by show 2023 + 6 * j + 6 ≤ 7293034; omega⟩ (fun r9 g9 H locs hp hI => ?_)
    rcases hp with ⟨hr9, hok0, ⟨fo1, h561, hfo1⟩, hC9, hk9⟩ | ⟨hr9, hba0, hgg⟩
    · subst hr9
      have hM9 : MR k ad g9 th uns play rd n lat gar T (came, mis, lost, bel, fig, u, ln, pg) := MR.kept hM (fun i h1 h2 => hk9 i (by omega) (by omega))
      refine lv_istore (lv' := [(5, .int (nI 0)), (0, .ref b), (1, .ref (ad 0)), (2, .ref (ad 50)), (3, .ref (ad 56)), (4, .int (nI (4 * j)))]) hx hb dL_law_225 hl (by decide) rfl (fun ls hl => ?_)
      refine lv_aload_n hx hb dL_law_227 rfl (lv_at hl 3 rfl) ?_
      refine lv_aload_n hx hb dL_law_228 rfl (lv_at hl 1 rfl) ?_
      refine lv_iload hx hb dL_law_229 (lv_at hl 5 rfl) ?_
      refine lv_iconst (v := nI 1) hx hb dL_law_231 (by decide) ?_
      refine m_iaddN hx hb dL_law_232 ?_
      refine va_sld hx hb hX hbl hAb hI.2 (vp_in_nI (n := (4 * j) + 1) (by omega) (by omega)) dL_law_233 ?_
      refine m_top (y := xs ((4 * j) + 1)) (by rw [nI_clamp (by omega)]) ?_
      refine lv_aload_n hx hb dL_law_234 rfl (lv_at hl 1 rfl) ?_
      refine lv_iload hx hb dL_law_235 (lv_at hl 5 rfl) ?_
      refine lv_iconst (v := nI 2) hx hb dL_law_237 (by decide) ?_
      refine m_iaddN hx hb dL_law_238 ?_
      refine va_sld hx hb hX hbl hAb hI.2 (vp_in_nI (n := (4 * j) + 2) (by omega) (by omega)) dL_law_239 ?_
      refine m_top (y := xs ((4 * j) + 2)) (by rw [nI_clamp (by omega)]) ?_
      refine lv_if_eq (tgt := 247) hx hb dL_law_240 (by decide) (fun c_240 => ?_) (fun c_240 => ?_)
      · refine lv_iconst (v := nI 0) hx hb dL_law_247 (by decide) ?_
        refine m_top (y := bI false) (by decide) ?_
        refine m_stk (show ([.int (bI false), .int (xs ((4 * j) + 1)), .ref (ad 50)] : List Value) = [.int (bI false), .int p0, .ref (ad 50)] from by rw [hp0]) ?_
        refine m_callVi (As := [.int p0, .int (bI false)]) (rest := []) ⟨hx, hb, hml, hown, hts⟩ hE hI (c_X4_character k l ad 57 g9 _ th uns play rd n lat gar T came mis lost bel fig u ln pg p0 false (by omega) hW hmw hcame hM9) (cwV 2 hts gL_law_X4_character rfl rfl rfl (by decide +kernel) ⟨Nat.le_of_ble_eq_true rfl, Nat.le_of_ble_eq_true rfl⟩) (i := 50) (by omega) hM9.1 rfl rfl hl.1 rfl (Nat.le_of_ble_eq_true rfl) dL_law_248 ⟨by show 57 + j + 1 ≤ 601024; omega, by show 2023 + 6 * j + 6 ≤ 7293034; omega⟩ (fun r9 g4 H locs hp hI => ?_)
        obtain ⟨hp, hk4⟩ := hp
        rcases hp with ⟨hxo0, hr4, hM4⟩ | ⟨hxb0, hM4⟩
        · subst hr4
          have hC4 : CR k ad g4 uns play rd n lat gar T (came, mis, lost, bel, fig, fi, u, z, F) r := CR.kept hC9 (fun i hi => hk4 i (Or.inl hi))
          have h564 : g4 56 = .inl (k.2.1.2.2, 1, .inr (.inl fo1)) := (hk4 56 (by omega)).trans h561
          have hW4 : CW play rd n lat gar T := hW
          refine lv_istore (lv' := [(6, .int (nI (chF (tn p0) false))), (5, .int (nI 0)), (0, .ref b), (1, .ref (ad 0)), (2, .ref (ad 50)), (3, .ref (ad 56)), (4, .int (nI (4 * j)))]) hx hb dL_law_251 hl (by decide) rfl (fun ls hl => ?_)
          refine lv_aload_n hx hb dL_law_253 rfl (lv_at hl 4 rfl) ?_
          refine m_callVi (As := []) (rest := []) ⟨hx, hb, hml, hown, hts⟩ hE hI (c_X4_thrown k l ad 57 g4 _ 0 uns play rd n lat gar T came mis lost bel fig u ln pg (by omega) hW4 hmw (by omega) hM4) (cwV 0 hts gL_law_X4_thrown rfl rfl rfl (by decide +kernel) ⟨Nat.le_of_ble_eq_true rfl, Nat.le_of_ble_eq_true rfl⟩) (i := 50) (by omega) hM4.1 rfl rfl hl.1 rfl (Nat.le_of_ble_eq_true rfl) dL_law_254 ⟨by show 57 + j + 1 ≤ 601024; omega, by show 2023 + 6 * j + 6 ≤ 7293034; omega⟩ (m_deti (fun H locs hI => ?_))
          refine lv_iload hx hb dL_law_257 (lv_at hl 1 rfl) ?_
          refine m_ceqN (tgt := 264) hx hb (by omega) (by omega) dL_law_259 (by decide) (fun c_259 => ?_) (fun c => absurd c (by decide))
          refine lv_iload hx hb dL_law_264 (lv_at hl 1 rfl) ?_
          refine m_zneN (tgt := 281) hx hb (by omega) dL_law_266 (by decide) (fun c => absurd c (by decide)) (fun c_266 => ?_)
          refine lv_aload_n hx hb dL_law_269 rfl (lv_at hl 5 rfl) ?_
          refine lv_iconst (v := nI 0) hx hb dL_law_270 (by decide) ?_
          refine m_lald hx hb hE hI 56 (by omega) (j := 0) h564 (by omega) (by omega) dL_law_271 ?_
          refine lv_iload hx hb dL_law_272 (lv_at hl 0 rfl) ?_
          refine lv_i2l (v := (nI (chF (tn p0) false)).toInt64) hx hb dL_law_274 rfl ?_
          refine W.lcmp hx hb dL_law_275 ?_
          refine m_top (y := nI 0) (show lg_cmp (fo1 0) ((nI (chF (tn p0) false)).toInt64) = nI 0 from by rw [nI_0]; refine (lg_cmp_eq _ _).mpr ?_; rw [hfo1]) ?_
          refine m_zeqN (tgt := 281) hx hb (by omega) dL_law_276 (by decide) (fun c_276 => ?_) (fun c => absurd c (by decide))
          refine lv_goto (tgt := 1350) hx hb dL_law_281 (by decide) ?_
          refine m_cs (c1 := 57 + (j + 1)) (s1 := 2023 + 6 * (j + 1)) (by omega) (by omega) ?_
          exact K d0 g4 H locs ls hd0 ⟨_, _, _, _, _, _, _, _, _, _, _, hC4, hM4, hY, hW4, hwf, hmw, (by show came ≤ 120 * (j + 1); omega), h564⟩ hI (lv_sub hl [2, 3, 4, 5, 6] rfl)
        · exact absurd (hok0.symm.trans hxb0) (by decide)
      · exact absurd c_213 c_240
    · subst hr9
      rw [hgg] at hI
      refine lv_istore (lv' := [(5, .int (nI 1)), (0, .ref b), (1, .ref (ad 0)), (2, .ref (ad 50)), (3, .ref (ad 56)), (4, .int (nI (4 * j)))]) hx hb dL_law_225 hl (by decide) rfl (fun ls hl => ?_)
      refine lv_aload_n hx hb dL_law_227 rfl (lv_at hl 3 rfl) ?_
      refine lv_aload_n hx hb dL_law_228 rfl (lv_at hl 1 rfl) ?_
      refine lv_iload hx hb dL_law_229 (lv_at hl 5 rfl) ?_
      refine lv_iconst (v := nI 1) hx hb dL_law_231 (by decide) ?_
      refine m_iaddN hx hb dL_law_232 ?_
      refine va_sld hx hb hX hbl hAb hI.2 (vp_in_nI (n := (4 * j) + 1) (by omega) (by omega)) dL_law_233 ?_
      refine m_top (y := xs ((4 * j) + 1)) (by rw [nI_clamp (by omega)]) ?_
      refine lv_aload_n hx hb dL_law_234 rfl (lv_at hl 1 rfl) ?_
      refine lv_iload hx hb dL_law_235 (lv_at hl 5 rfl) ?_
      refine lv_iconst (v := nI 2) hx hb dL_law_237 (by decide) ?_
      refine m_iaddN hx hb dL_law_238 ?_
      refine va_sld hx hb hX hbl hAb hI.2 (vp_in_nI (n := (4 * j) + 2) (by omega) (by omega)) dL_law_239 ?_
      refine m_top (y := xs ((4 * j) + 2)) (by rw [nI_clamp (by omega)]) ?_
      refine lv_if_eq (tgt := 247) hx hb dL_law_240 (by decide) (fun c_240 => ?_) (fun c_240 => ?_)
      · refine lv_iconst (v := nI 0) hx hb dL_law_247 (by decide) ?_
        refine m_top (y := bI false) (by decide) ?_
        refine m_stk (show ([.int (bI false), .int (xs ((4 * j) + 1)), .ref (ad 50)] : List Value) = [.int (bI false), .int p0, .ref (ad 50)] from by rw [hp0]) ?_
        refine m_callVi (As := [.int p0, .int (bI false)]) (rest := []) ⟨hx, hb, hml, hown, hts⟩ hE hI (c_X4_character k l ad 57 g _ th uns play rd n lat gar T came mis lost bel fig u ln pg p0 false (by omega) hW hmw hcame hM) (cwV 2 hts gL_law_X4_character rfl rfl rfl (by decide +kernel) ⟨Nat.le_of_ble_eq_true rfl, Nat.le_of_ble_eq_true rfl⟩) (i := 50) (by omega) hM.1 rfl rfl hl.1 rfl (Nat.le_of_ble_eq_true rfl) dL_law_248 ⟨by show 57 + j + 1 ≤ 601024; omega, by show 2023 + 6 * j + 6 ≤ 7293034; omega⟩ (fun r9 g4 H locs hp hI => ?_)
        obtain ⟨hp, hk4⟩ := hp
        rcases hp with ⟨hxo0, hr4, hM4⟩ | ⟨hxb0, hM4⟩
        · exact absurd (hxo0.symm.trans hba0) (by decide)
        · refine lv_istore (lv' := [(6, .int r9), (5, .int (nI 1)), (0, .ref b), (1, .ref (ad 0)), (2, .ref (ad 50)), (3, .ref (ad 56)), (4, .int (nI (4 * j)))]) hx hb dL_law_251 hl (by decide) rfl (fun ls hl => ?_)
          refine lv_aload_n hx hb dL_law_253 rfl (lv_at hl 4 rfl) ?_
          refine m_callVi (As := []) (rest := []) ⟨hx, hb, hml, hown, hts⟩ hE hI (c_X4_thrown k l ad 57 g4 _ 1 uns play rd n lat gar T came mis lost bel fig u ln pg (by omega) hW hmw (by omega) hM4) (cwV 0 hts gL_law_X4_thrown rfl rfl rfl (by decide +kernel) ⟨Nat.le_of_ble_eq_true rfl, Nat.le_of_ble_eq_true rfl⟩) (i := 50) (by omega) hM4.1 rfl rfl hl.1 rfl (Nat.le_of_ble_eq_true rfl) dL_law_254 ⟨by show 57 + j + 1 ≤ 601024; omega, by show 2023 + 6 * j + 6 ≤ 7293034; omega⟩ (m_deti (fun H locs hI => ?_))
          refine lv_iload hx hb dL_law_257 (lv_at hl 1 rfl) ?_
          refine m_ceqN (tgt := 264) hx hb (by omega) (by omega) dL_law_259 (by decide) (fun c_259 => ?_) (fun c => absurd c (by decide))
          refine lv_iload hx hb dL_law_264 (lv_at hl 1 rfl) ?_
          refine m_zneN (tgt := 281) hx hb (by omega) dL_law_266 (by decide) (fun c_266 => ?_) (fun c => absurd c (by decide))
          refine lv_goto (tgt := 1350) hx hb dL_law_281 (by decide) ?_
          refine m_cs (c1 := 57 + (j + 1)) (s1 := 2023 + 6 * (j + 1)) (by omega) (by omega) ?_
          exact K d0 g4 H locs ls hd0 ⟨_, _, _, _, _, _, _, _, _, _, _, CR.kept hC (fun i hi => hk4 i (Or.inl hi)), hM4, hY, hW, hwf, hmw, (by show came ≤ 120 * (j + 1); omega), (hk4 56 (by omega)).trans h56⟩ hI (lv_sub hl [2, 3, 4, 5, 6] rfl)
      · exact absurd c_213 c_240
  · refine lv_iconst (v := nI 1) hx hb dL_law_216 (by decide) ?_
    refine lv_goto (tgt := 221) hx hb dL_law_217 (by decide) ?_
    refine m_top (y := bI true) (by decide) ?_
    refine lv_aload_n hx hb dL_law_221 rfl (lv_at hl 3 rfl) ?_
    obtain ⟨p0, hp0⟩ : ∃ zz, zz = xs ((4 * j) + 1) := ⟨_, rfl⟩
    refine m_stk (show ([.ref (ad 56), .int (bI true), .int (xs ((4 * j) + 1)), .ref (ad 0)] : List Value) = [.ref (ad 56), .int (bI true), .int p0, .ref (ad 0)] from by rw [hp0]) ?_
    refine m_callSL (As := [.ref (ad 0), .int p0, .int (bI true), .ref (ad 56)]) (rest := []) ⟨hx, hb, hml, hown, hts⟩ hE hI (c_L_character k l hst ad 57 g _ uns play rd n lat gar T came mis lost bel fig fi u z F r p0 true fo (by omega) hW hwf hcame hC h56) (vx_cwSW 4 hts gL_law_L_character rfl rfl rfl (by decide +kernel) ⟨Nat.le_of_ble_eq_true rfl, Nat.le_of_ble_eq_true rfl⟩) rfl hl.1 rfl (Nat.le_of_ble_eq_true rfl) dL_law_222 ⟨by show 57 + j + 1 ≤ 601024; omega, by show 2023 + 6 * j + 6 ≤ 7293034; omega⟩ (fun r9 g9 H locs hp hI => ?_)
    rcases hp with ⟨hr9, hok0, ⟨fo1, h561, hfo1⟩, hC9, hk9⟩ | ⟨hr9, hba0, hgg⟩
    · subst hr9
      have hM9 : MR k ad g9 th uns play rd n lat gar T (came, mis, lost, bel, fig, u, ln, pg) := MR.kept hM (fun i h1 h2 => hk9 i (by omega) (by omega))
      refine lv_istore (lv' := [(5, .int (nI 0)), (0, .ref b), (1, .ref (ad 0)), (2, .ref (ad 50)), (3, .ref (ad 56)), (4, .int (nI (4 * j)))]) hx hb dL_law_225 hl (by decide) rfl (fun ls hl => ?_)
      refine lv_aload_n hx hb dL_law_227 rfl (lv_at hl 3 rfl) ?_
      refine lv_aload_n hx hb dL_law_228 rfl (lv_at hl 1 rfl) ?_
      refine lv_iload hx hb dL_law_229 (lv_at hl 5 rfl) ?_
      refine lv_iconst (v := nI 1) hx hb dL_law_231 (by decide) ?_
      refine m_iaddN hx hb dL_law_232 ?_
      refine va_sld hx hb hX hbl hAb hI.2 (vp_in_nI (n := (4 * j) + 1) (by omega) (by omega)) dL_law_233 ?_
      refine m_top (y := xs ((4 * j) + 1)) (by rw [nI_clamp (by omega)]) ?_
      refine lv_aload_n hx hb dL_law_234 rfl (lv_at hl 1 rfl) ?_
      refine lv_iload hx hb dL_law_235 (lv_at hl 5 rfl) ?_
      refine lv_iconst (v := nI 2) hx hb dL_law_237 (by decide) ?_
      refine m_iaddN hx hb dL_law_238 ?_
      refine va_sld hx hb hX hbl hAb hI.2 (vp_in_nI (n := (4 * j) + 2) (by omega) (by omega)) dL_law_239 ?_
      refine m_top (y := xs ((4 * j) + 2)) (by rw [nI_clamp (by omega)]) ?_
      refine lv_if_eq (tgt := 247) hx hb dL_law_240 (by decide) (fun c_240 => ?_) (fun c_240 => ?_)
      · exact absurd c_240 c_213
      · refine lv_iconst (v := nI 1) hx hb dL_law_243 (by decide) ?_
        refine lv_goto (tgt := 248) hx hb dL_law_244 (by decide) ?_
        refine m_top (y := bI true) (by decide) ?_
        refine m_stk (show ([.int (bI true), .int (xs ((4 * j) + 1)), .ref (ad 50)] : List Value) = [.int (bI true), .int p0, .ref (ad 50)] from by rw [hp0]) ?_
        refine m_callVi (As := [.int p0, .int (bI true)]) (rest := []) ⟨hx, hb, hml, hown, hts⟩ hE hI (c_X4_character k l ad 57 g9 _ th uns play rd n lat gar T came mis lost bel fig u ln pg p0 true (by omega) hW hmw hcame hM9) (cwV 2 hts gL_law_X4_character rfl rfl rfl (by decide +kernel) ⟨Nat.le_of_ble_eq_true rfl, Nat.le_of_ble_eq_true rfl⟩) (i := 50) (by omega) hM9.1 rfl rfl hl.1 rfl (Nat.le_of_ble_eq_true rfl) dL_law_248 ⟨by show 57 + j + 1 ≤ 601024; omega, by show 2023 + 6 * j + 6 ≤ 7293034; omega⟩ (fun r9 g4 H locs hp hI => ?_)
        obtain ⟨hp, hk4⟩ := hp
        rcases hp with ⟨hxo0, hr4, hM4⟩ | ⟨hxb0, hM4⟩
        · subst hr4
          have hC4 : CR k ad g4 uns play rd n lat gar T (came, mis, lost, bel, fig, fi, u, z, F) r := CR.kept hC9 (fun i hi => hk4 i (Or.inl hi))
          have h564 : g4 56 = .inl (k.2.1.2.2, 1, .inr (.inl fo1)) := (hk4 56 (by omega)).trans h561
          have hW4 : CW play rd n lat gar T := hW
          refine lv_istore (lv' := [(6, .int (nI (chF (tn p0) true))), (5, .int (nI 0)), (0, .ref b), (1, .ref (ad 0)), (2, .ref (ad 50)), (3, .ref (ad 56)), (4, .int (nI (4 * j)))]) hx hb dL_law_251 hl (by decide) rfl (fun ls hl => ?_)
          refine lv_aload_n hx hb dL_law_253 rfl (lv_at hl 4 rfl) ?_
          refine m_callVi (As := []) (rest := []) ⟨hx, hb, hml, hown, hts⟩ hE hI (c_X4_thrown k l ad 57 g4 _ 0 uns play rd n lat gar T came mis lost bel fig u ln pg (by omega) hW4 hmw (by omega) hM4) (cwV 0 hts gL_law_X4_thrown rfl rfl rfl (by decide +kernel) ⟨Nat.le_of_ble_eq_true rfl, Nat.le_of_ble_eq_true rfl⟩) (i := 50) (by omega) hM4.1 rfl rfl hl.1 rfl (Nat.le_of_ble_eq_true rfl) dL_law_254 ⟨by show 57 + j + 1 ≤ 601024; omega, by show 2023 + 6 * j + 6 ≤ 7293034; omega⟩ (m_deti (fun H locs hI => ?_))
          refine lv_iload hx hb dL_law_257 (lv_at hl 1 rfl) ?_
          refine m_ceqN (tgt := 264) hx hb (by omega) (by omega) dL_law_259 (by decide) (fun c_259 => ?_) (fun c => absurd c (by decide))
          refine lv_iload hx hb dL_law_264 (lv_at hl 1 rfl) ?_
          refine m_zneN (tgt := 281) hx hb (by omega) dL_law_266 (by decide) (fun c => absurd c (by decide)) (fun c_266 => ?_)
          refine lv_aload_n hx hb dL_law_269 rfl (lv_at hl 5 rfl) ?_
          refine lv_iconst (v := nI 0) hx hb dL_law_270 (by decide) ?_
          refine m_lald hx hb hE hI 56 (by omega) (j := 0) h564 (by omega) (by omega) dL_law_271 ?_
          refine lv_iload hx hb dL_law_272 (lv_at hl 0 rfl) ?_
          refine lv_i2l (v := (nI (chF (tn p0) true)).toInt64) hx hb dL_law_274 rfl ?_
          refine W.lcmp hx hb dL_law_275 ?_
          refine m_top (y := nI 0) (show lg_cmp (fo1 0) ((nI (chF (tn p0) true)).toInt64) = nI 0 from by rw [nI_0]; refine (lg_cmp_eq _ _).mpr ?_; rw [hfo1]) ?_
          refine m_zeqN (tgt := 281) hx hb (by omega) dL_law_276 (by decide) (fun c_276 => ?_) (fun c => absurd c (by decide))
          refine lv_goto (tgt := 1350) hx hb dL_law_281 (by decide) ?_
          refine m_cs (c1 := 57 + (j + 1)) (s1 := 2023 + 6 * (j + 1)) (by omega) (by omega) ?_
          exact K d0 g4 H locs ls hd0 ⟨_, _, _, _, _, _, _, _, _, _, _, hC4, hM4, hY, hW4, hwf, hmw, (by show came ≤ 120 * (j + 1); omega), h564⟩ hI (lv_sub hl [2, 3, 4, 5, 6] rfl)
        · exact absurd (hok0.symm.trans hxb0) (by decide)
    · subst hr9
      rw [hgg] at hI
      refine lv_istore (lv' := [(5, .int (nI 1)), (0, .ref b), (1, .ref (ad 0)), (2, .ref (ad 50)), (3, .ref (ad 56)), (4, .int (nI (4 * j)))]) hx hb dL_law_225 hl (by decide) rfl (fun ls hl => ?_)
      refine lv_aload_n hx hb dL_law_227 rfl (lv_at hl 3 rfl) ?_
      refine lv_aload_n hx hb dL_law_228 rfl (lv_at hl 1 rfl) ?_
      refine lv_iload hx hb dL_law_229 (lv_at hl 5 rfl) ?_
      refine lv_iconst (v := nI 1) hx hb dL_law_231 (by decide) ?_
      refine m_iaddN hx hb dL_law_232 ?_
      refine va_sld hx hb hX hbl hAb hI.2 (vp_in_nI (n := (4 * j) + 1) (by omega) (by omega)) dL_law_233 ?_
      refine m_top (y := xs ((4 * j) + 1)) (by rw [nI_clamp (by omega)]) ?_
      refine lv_aload_n hx hb dL_law_234 rfl (lv_at hl 1 rfl) ?_
      refine lv_iload hx hb dL_law_235 (lv_at hl 5 rfl) ?_
      refine lv_iconst (v := nI 2) hx hb dL_law_237 (by decide) ?_
      refine m_iaddN hx hb dL_law_238 ?_
      refine va_sld hx hb hX hbl hAb hI.2 (vp_in_nI (n := (4 * j) + 2) (by omega) (by omega)) dL_law_239 ?_
      refine m_top (y := xs ((4 * j) + 2)) (by rw [nI_clamp (by omega)]) ?_
      refine lv_if_eq (tgt := 247) hx hb dL_law_240 (by decide) (fun c_240 => ?_) (fun c_240 => ?_)
      · exact absurd c_240 c_213
      · refine lv_iconst (v := nI 1) hx hb dL_law_243 (by decide) ?_
        refine lv_goto (tgt := 248) hx hb dL_law_244 (by decide) ?_
        refine m_top (y := bI true) (by decide) ?_
        refine m_stk (show ([.int (bI true), .int (xs ((4 * j) + 1)), .ref (ad 50)] : List Value) = [.int (bI true), .int p0, .ref (ad 50)] from by rw [hp0]) ?_
        refine m_callVi (As := [.int p0, .int (bI true)]) (rest := []) ⟨hx, hb, hml, hown, hts⟩ hE hI (c_X4_character k l ad 57 g _ th uns play rd n lat gar T came mis lost bel fig u ln pg p0 true (by omega) hW hmw hcame hM) (cwV 2 hts gL_law_X4_character rfl rfl rfl (by decide +kernel) ⟨Nat.le_of_ble_eq_true rfl, Nat.le_of_ble_eq_true rfl⟩) (i := 50) (by omega) hM.1 rfl rfl hl.1 rfl (Nat.le_of_ble_eq_true rfl) dL_law_248 ⟨by show 57 + j + 1 ≤ 601024; omega, by show 2023 + 6 * j + 6 ≤ 7293034; omega⟩ (fun r9 g4 H locs hp hI => ?_)
        obtain ⟨hp, hk4⟩ := hp
        rcases hp with ⟨hxo0, hr4, hM4⟩ | ⟨hxb0, hM4⟩
        · exact absurd (hxo0.symm.trans hba0) (by decide)
        · refine lv_istore (lv' := [(6, .int r9), (5, .int (nI 1)), (0, .ref b), (1, .ref (ad 0)), (2, .ref (ad 50)), (3, .ref (ad 56)), (4, .int (nI (4 * j)))]) hx hb dL_law_251 hl (by decide) rfl (fun ls hl => ?_)
          refine lv_aload_n hx hb dL_law_253 rfl (lv_at hl 4 rfl) ?_
          refine m_callVi (As := []) (rest := []) ⟨hx, hb, hml, hown, hts⟩ hE hI (c_X4_thrown k l ad 57 g4 _ 1 uns play rd n lat gar T came mis lost bel fig u ln pg (by omega) hW hmw (by omega) hM4) (cwV 0 hts gL_law_X4_thrown rfl rfl rfl (by decide +kernel) ⟨Nat.le_of_ble_eq_true rfl, Nat.le_of_ble_eq_true rfl⟩) (i := 50) (by omega) hM4.1 rfl rfl hl.1 rfl (Nat.le_of_ble_eq_true rfl) dL_law_254 ⟨by show 57 + j + 1 ≤ 601024; omega, by show 2023 + 6 * j + 6 ≤ 7293034; omega⟩ (m_deti (fun H locs hI => ?_))
          refine lv_iload hx hb dL_law_257 (lv_at hl 1 rfl) ?_
          refine m_ceqN (tgt := 264) hx hb (by omega) (by omega) dL_law_259 (by decide) (fun c_259 => ?_) (fun c => absurd c (by decide))
          refine lv_iload hx hb dL_law_264 (lv_at hl 1 rfl) ?_
          refine m_zneN (tgt := 281) hx hb (by omega) dL_law_266 (by decide) (fun c_266 => ?_) (fun c => absurd c (by decide))
          refine lv_goto (tgt := 1350) hx hb dL_law_281 (by decide) ?_
          refine m_cs (c1 := 57 + (j + 1)) (s1 := 2023 + 6 * (j + 1)) (by omega) (by omega) ?_
          exact K d0 g4 H locs ls hd0 ⟨_, _, _, _, _, _, _, _, _, _, _, CR.kept hC (fun i hi => hk4 i (Or.inl hi)), hM4, hY, hW, hwf, hmw, (by show came ≤ 120 * (j + 1); omega), (hk4 56 (by omega)).trans h56⟩ hI (lv_sub hl [2, 3, 4, 5, 6] rfl)
set_option maxHeartbeats 8000000 in
set_option maxRecDepth 100000 in
theorem st_apart {p : Program} {l : Launch} {e : Env} {s : State} {m : MethodId} {below : List Frame} {meth : Method} {c : Code} {b L : Nat} {xs : Nat → Int32} {Q : State → Prop} {k : mC} {A : Nat → Prop} {ad : Nat → Nat} {r : Nat → Option Nat} {j : Nat} (C0 : LC p l s m meth c b L xs k A ad j) {d0 : Drawn} (hd0 : s.drawn.sameBut d0 lw_cs) {g : Nat → va_E} {H : Heap} {locs : List Loc} {ls : Array Slot} (hI : mI k ad 57 g A s H locs) (hl : lv_has ls 9 [(0, .ref b), (1, .ref (ad 0)), (2, .ref (ad 50)), (3, .ref (ad 56)), (4, .int (nI (4 * j)))]) (hLI : LI k ad g r j) (K : LK p l e s m below meth c b Q k A ad r j) : W p l e room_1 (s.setDrawn d0) m #[Value.ref b] below meth c H locs (57 + j) (2023 + 6 * j) Q (F0 m 284 ls []) := by
  obtain ⟨hx, hb, hml, hown, htsL, hst, hX, hbl, hAb, hEd, hL, hj4⟩ := C0
  have hts := dr_words htsL d0
  have hE := hEd d0
  have hX : va_X b L xs (s.setDrawn d0) s.heap := hX
  obtain ⟨uns, play, rd, n, lat, gar, T, ⟨came, mis, lost, bel, fig, fi, u, z, F⟩, ⟨came', mis', lost', bel', fig', u', ln, pg⟩, th, fo, hC, hM, ⟨e1, e2, e3, e4, e5, e6, hR2, hR3⟩, hW, hwf, hmw, hcj, h56⟩ := hLI
  have f1 : came = came' := e1
  have f2 : mis = mis' := e2
  have f3 : lost = lost' := e3
  have f4 : bel = bel' := e4
  have f5 : fig = fig' := e5
  have f6 : u = u' := Eq.symm e6
  clear e1 e2 e3 e4 e5 e6
  subst f1 f2 f3 f4 f5 f6
  have hR : PgR (fi, u, z, F) (u, ln, pg) := ⟨rfl, hR2, hR3⟩
  have hR2 : ∀ l, l < u → z (slt fi l) = ln l := hR2
  have hR3 : ∀ l, l < u → ∀ i, i < ln l → F (slt fi l) i = pg (40 * l + i) := hR3
  have hC : CR k ad g uns play rd n lat gar T (came, mis, lost, bel, fig, fi, u, z, F) r := hC
  have hM : MR k ad g th uns play rd n lat gar T (came, mis, lost, bel, fig, u, ln, pg) := hM
  have hwf : cWf (fi, u, z, F) := hwf
  have hmw : mWf (u, ln, pg) := hmw
  have hcj : came ≤ 120 * j := hcj
  have hcame : came < 2000000000 := by omega
  have hu20 : u ≤ 20 := hmw.2.1
  have hn120 : n ≤ 120 := hW.2.2.1
  have hrdn : rd ≤ n := hW.2.1
  have hpl9 : play ≤ 9 := hW.1
  have hY : YR (came, mis, lost, bel, fig, fi, u, z, F) (came, mis, lost, bel, fig, u, ln, pg) := ⟨rfl, rfl, rfl, rfl, rfl, hR⟩
  refine lv_aload_n hx hb dL_law_284 rfl (lv_at hl 1 rfl) ?_
  refine lv_aload_n hx hb dL_law_285 rfl (lv_at hl 0 rfl) ?_
  refine lv_iload hx hb dL_law_286 (lv_at hl 4 rfl) ?_
  refine lv_iconst (v := nI 1) hx hb dL_law_288 (by decide) ?_
  refine m_iaddN hx hb dL_law_289 ?_
  refine va_sld hx hb hX hbl hAb hI.2 (vp_in_nI (n := (4 * j) + 1) (by omega) (by omega)) dL_law_290 ?_
  refine m_top (y := xs ((4 * j) + 1)) (by rw [nI_clamp (by omega)]) ?_
  refine lv_aload_n hx hb dL_law_291 rfl (lv_at hl 0 rfl) ?_
  refine lv_iload hx hb dL_law_292 (lv_at hl 4 rfl) ?_
  refine lv_iconst (v := nI 2) hx hb dL_law_294 (by decide) ?_
  refine m_iaddN hx hb dL_law_295 ?_
  refine va_sld hx hb hX hbl hAb hI.2 (vp_in_nI (n := (4 * j) + 2) (by omega) (by omega)) dL_law_296 ?_
  refine m_top (y := xs ((4 * j) + 2)) (by rw [nI_clamp (by omega)]) ?_
  refine lv_aload_n hx hb dL_law_297 rfl (lv_at hl 3 rfl) ?_
  obtain ⟨p0, hp0⟩ : ∃ zz, zz = xs ((4 * j) + 1) := ⟨_, rfl⟩
  obtain ⟨p1, hp1⟩ : ∃ zz, zz = xs ((4 * j) + 2) := ⟨_, rfl⟩
  refine m_stk (show ([.ref (ad 56), .int (xs ((4 * j) + 2)), .int (xs ((4 * j) + 1)), .ref (ad 0)] : List Value) = [.ref (ad 56), .int p1, .int p0, .ref (ad 0)] from by rw [hp0, hp1]) ?_
  refine m_callSL (As := [.ref (ad 0), .int p0, .int p1, .ref (ad 56)]) (rest := []) ⟨hx, hb, hml, hown, hts⟩ hE hI (c_L_apart k l hst ad 57 g _ uns play rd n lat gar T came mis lost bel fig fi u z F r p0 p1 fo (by omega) hW hwf hcame hC h56) (vx_cwSW 4 hts gL_law_L_apart rfl rfl rfl (by decide +kernel) ⟨Nat.le_of_ble_eq_true rfl, Nat.le_of_ble_eq_true rfl⟩) rfl hl.1 rfl (Nat.le_of_ble_eq_true rfl) dL_law_298 ⟨by show 57 + j + 1 ≤ 601024; omega, by show 2023 + 6 * j + 6 ≤ 7293034; omega⟩ (fun r9 g9 H locs hp hI => ?_)
  rcases hp with ⟨hr9, hok0, ⟨fo1, h561, hfo1⟩, hC9, hk9⟩ | ⟨hr9, hba0, hgg⟩
  · subst hr9
    have hM9 : MR k ad g9 th uns play rd n lat gar T (came, mis, lost, bel, fig, u, ln, pg) := MR.kept hM (fun i h1 h2 => hk9 i (by omega) (by omega))
    refine lv_istore (lv' := [(5, .int (nI 0)), (0, .ref b), (1, .ref (ad 0)), (2, .ref (ad 50)), (3, .ref (ad 56)), (4, .int (nI (4 * j)))]) hx hb dL_law_301 hl (by decide) rfl (fun ls hl => ?_)
    refine lv_aload_n hx hb dL_law_303 rfl (lv_at hl 3 rfl) ?_
    refine lv_aload_n hx hb dL_law_304 rfl (lv_at hl 1 rfl) ?_
    refine lv_iload hx hb dL_law_305 (lv_at hl 5 rfl) ?_
    refine lv_iconst (v := nI 1) hx hb dL_law_307 (by decide) ?_
    refine m_iaddN hx hb dL_law_308 ?_
    refine va_sld hx hb hX hbl hAb hI.2 (vp_in_nI (n := (4 * j) + 1) (by omega) (by omega)) dL_law_309 ?_
    refine m_top (y := xs ((4 * j) + 1)) (by rw [nI_clamp (by omega)]) ?_
    refine lv_aload_n hx hb dL_law_310 rfl (lv_at hl 1 rfl) ?_
    refine lv_iload hx hb dL_law_311 (lv_at hl 5 rfl) ?_
    refine lv_iconst (v := nI 2) hx hb dL_law_313 (by decide) ?_
    refine m_iaddN hx hb dL_law_314 ?_
    refine va_sld hx hb hX hbl hAb hI.2 (vp_in_nI (n := (4 * j) + 2) (by omega) (by omega)) dL_law_315 ?_
    refine m_top (y := xs ((4 * j) + 2)) (by rw [nI_clamp (by omega)]) ?_
    refine m_stk (show ([.int (xs ((4 * j) + 2)), .int (xs ((4 * j) + 1)), .ref (ad 50)] : List Value) = [.int p1, .int p0, .ref (ad 50)] from by rw [hp0, hp1]) ?_
    refine m_callVi (As := [.int p0, .int p1]) (rest := []) ⟨hx, hb, hml, hown, hts⟩ hE hI (c_X4_apart k l ad 57 g9 _ th uns play rd n lat gar T came mis lost bel fig u ln pg p0 p1 (by omega) hW hmw hcame hM9) (cwV 2 hts gL_law_X4_apart rfl rfl rfl (by decide +kernel) ⟨Nat.le_of_ble_eq_true rfl, Nat.le_of_ble_eq_true rfl⟩) (i := 50) (by omega) hM9.1 rfl rfl hl.1 rfl (Nat.le_of_ble_eq_true rfl) dL_law_316 ⟨by show 57 + j + 1 ≤ 601024; omega, by show 2023 + 6 * j + 6 ≤ 7293034; omega⟩ (fun r9 g4 H locs hp hI => ?_)
    obtain ⟨hp, hk4⟩ := hp
    rcases hp with ⟨hxo0, hr4, hM4⟩ | ⟨hxb0, hM4⟩
    · subst hr4
      have hC4 : CR k ad g4 uns play rd n lat gar T (came, mis, lost, bel, fig, fi, u, z, F) r := CR.kept hC9 (fun i hi => hk4 i (Or.inl hi))
      have h564 : g4 56 = .inl (k.2.1.2.2, 1, .inr (.inl fo1)) := (hk4 56 (by omega)).trans h561
      have hW4 : CW play rd n lat gar T := hW
      refine lv_istore (lv' := [(6, .int (nI (pc5 (cd (tn p0) ^^^ cd (tn p1))))), (5, .int (nI 0)), (0, .ref b), (1, .ref (ad 0)), (2, .ref (ad 50)), (3, .ref (ad 56)), (4, .int (nI (4 * j)))]) hx hb dL_law_319 hl (by decide) rfl (fun ls hl => ?_)
      refine lv_aload_n hx hb dL_law_321 rfl (lv_at hl 4 rfl) ?_
      refine m_callVi (As := []) (rest := []) ⟨hx, hb, hml, hown, hts⟩ hE hI (c_X4_thrown k l ad 57 g4 _ 0 uns play rd n lat gar T came mis lost bel fig u ln pg (by omega) hW4 hmw (by omega) hM4) (cwV 0 hts gL_law_X4_thrown rfl rfl rfl (by decide +kernel) ⟨Nat.le_of_ble_eq_true rfl, Nat.le_of_ble_eq_true rfl⟩) (i := 50) (by omega) hM4.1 rfl rfl hl.1 rfl (Nat.le_of_ble_eq_true rfl) dL_law_322 ⟨by show 57 + j + 1 ≤ 601024; omega, by show 2023 + 6 * j + 6 ≤ 7293034; omega⟩ (m_deti (fun H locs hI => ?_))
      refine lv_iload hx hb dL_law_325 (lv_at hl 1 rfl) ?_
      refine m_ceqN (tgt := 332) hx hb (by omega) (by omega) dL_law_327 (by decide) (fun c_327 => ?_) (fun c => absurd c (by decide))
      refine lv_iload hx hb dL_law_332 (lv_at hl 1 rfl) ?_
      refine m_zneN (tgt := 349) hx hb (by omega) dL_law_334 (by decide) (fun c => absurd c (by decide)) (fun c_334 => ?_)
      refine lv_aload_n hx hb dL_law_337 rfl (lv_at hl 5 rfl) ?_
      refine lv_iconst (v := nI 0) hx hb dL_law_338 (by decide) ?_
      refine m_lald hx hb hE hI 56 (by omega) (j := 0) h564 (by omega) (by omega) dL_law_339 ?_
      refine lv_iload hx hb dL_law_340 (lv_at hl 0 rfl) ?_
      refine lv_i2l (v := (nI (pc5 (cd (tn p0) ^^^ cd (tn p1)))).toInt64) hx hb dL_law_342 rfl ?_
      refine W.lcmp hx hb dL_law_343 ?_
      refine m_top (y := nI 0) (show lg_cmp (fo1 0) ((nI (pc5 (cd (tn p0) ^^^ cd (tn p1)))).toInt64) = nI 0 from by rw [nI_0]; refine (lg_cmp_eq _ _).mpr ?_; rw [hfo1]) ?_
      refine m_zeqN (tgt := 349) hx hb (by omega) dL_law_344 (by decide) (fun c_344 => ?_) (fun c => absurd c (by decide))
      refine lv_goto (tgt := 1350) hx hb dL_law_349 (by decide) ?_
      refine m_cs (c1 := 57 + (j + 1)) (s1 := 2023 + 6 * (j + 1)) (by omega) (by omega) ?_
      exact K d0 g4 H locs ls hd0 ⟨_, _, _, _, _, _, _, _, _, _, _, hC4, hM4, hY, hW4, hwf, hmw, (by show came ≤ 120 * (j + 1); omega), h564⟩ hI (lv_sub hl [2, 3, 4, 5, 6] rfl)
    · exact absurd (hok0.symm.trans hxb0) (by decide)
  · subst hr9
    rw [hgg] at hI
    refine lv_istore (lv' := [(5, .int (nI 1)), (0, .ref b), (1, .ref (ad 0)), (2, .ref (ad 50)), (3, .ref (ad 56)), (4, .int (nI (4 * j)))]) hx hb dL_law_301 hl (by decide) rfl (fun ls hl => ?_)
    refine lv_aload_n hx hb dL_law_303 rfl (lv_at hl 3 rfl) ?_
    refine lv_aload_n hx hb dL_law_304 rfl (lv_at hl 1 rfl) ?_
    refine lv_iload hx hb dL_law_305 (lv_at hl 5 rfl) ?_
    refine lv_iconst (v := nI 1) hx hb dL_law_307 (by decide) ?_
    refine m_iaddN hx hb dL_law_308 ?_
    refine va_sld hx hb hX hbl hAb hI.2 (vp_in_nI (n := (4 * j) + 1) (by omega) (by omega)) dL_law_309 ?_
    refine m_top (y := xs ((4 * j) + 1)) (by rw [nI_clamp (by omega)]) ?_
    refine lv_aload_n hx hb dL_law_310 rfl (lv_at hl 1 rfl) ?_
    refine lv_iload hx hb dL_law_311 (lv_at hl 5 rfl) ?_
    refine lv_iconst (v := nI 2) hx hb dL_law_313 (by decide) ?_
    refine m_iaddN hx hb dL_law_314 ?_
    refine va_sld hx hb hX hbl hAb hI.2 (vp_in_nI (n := (4 * j) + 2) (by omega) (by omega)) dL_law_315 ?_
    refine m_top (y := xs ((4 * j) + 2)) (by rw [nI_clamp (by omega)]) ?_
    refine m_stk (show ([.int (xs ((4 * j) + 2)), .int (xs ((4 * j) + 1)), .ref (ad 50)] : List Value) = [.int p1, .int p0, .ref (ad 50)] from by rw [hp0, hp1]) ?_
    refine m_callVi (As := [.int p0, .int p1]) (rest := []) ⟨hx, hb, hml, hown, hts⟩ hE hI (c_X4_apart k l ad 57 g _ th uns play rd n lat gar T came mis lost bel fig u ln pg p0 p1 (by omega) hW hmw hcame hM) (cwV 2 hts gL_law_X4_apart rfl rfl rfl (by decide +kernel) ⟨Nat.le_of_ble_eq_true rfl, Nat.le_of_ble_eq_true rfl⟩) (i := 50) (by omega) hM.1 rfl rfl hl.1 rfl (Nat.le_of_ble_eq_true rfl) dL_law_316 ⟨by show 57 + j + 1 ≤ 601024; omega, by show 2023 + 6 * j + 6 ≤ 7293034; omega⟩ (fun r9 g4 H locs hp hI => ?_)
    obtain ⟨hp, hk4⟩ := hp
    rcases hp with ⟨hxo0, hr4, hM4⟩ | ⟨hxb0, hM4⟩
    · exact absurd (hxo0.symm.trans hba0) (by decide)
    · refine lv_istore (lv' := [(6, .int r9), (5, .int (nI 1)), (0, .ref b), (1, .ref (ad 0)), (2, .ref (ad 50)), (3, .ref (ad 56)), (4, .int (nI (4 * j)))]) hx hb dL_law_319 hl (by decide) rfl (fun ls hl => ?_)
      refine lv_aload_n hx hb dL_law_321 rfl (lv_at hl 4 rfl) ?_
      refine m_callVi (As := []) (rest := []) ⟨hx, hb, hml, hown, hts⟩ hE hI (c_X4_thrown k l ad 57 g4 _ 1 uns play rd n lat gar T came mis lost bel fig u ln pg (by omega) hW hmw (by omega) hM4) (cwV 0 hts gL_law_X4_thrown rfl rfl rfl (by decide +kernel) ⟨Nat.le_of_ble_eq_true rfl, Nat.le_of_ble_eq_true rfl⟩) (i := 50) (by omega) hM4.1 rfl rfl hl.1 rfl (Nat.le_of_ble_eq_true rfl) dL_law_322 ⟨by show 57 + j + 1 ≤ 601024; omega, by show 2023 + 6 * j + 6 ≤ 7293034; omega⟩ (m_deti (fun H locs hI => ?_))
      refine lv_iload hx hb dL_law_325 (lv_at hl 1 rfl) ?_
      refine m_ceqN (tgt := 332) hx hb (by omega) (by omega) dL_law_327 (by decide) (fun c_327 => ?_) (fun c => absurd c (by decide))
      refine lv_iload hx hb dL_law_332 (lv_at hl 1 rfl) ?_
      refine m_zneN (tgt := 349) hx hb (by omega) dL_law_334 (by decide) (fun c_334 => ?_) (fun c => absurd c (by decide))
      refine lv_goto (tgt := 1350) hx hb dL_law_349 (by decide) ?_
      refine m_cs (c1 := 57 + (j + 1)) (s1 := 2023 + 6 * (j + 1)) (by omega) (by omega) ?_
      exact K d0 g4 H locs ls hd0 ⟨_, _, _, _, _, _, _, _, _, _, _, CR.kept hC (fun i hi => hk4 i (Or.inl hi)), hM4, hY, hW, hwf, hmw, (by show came ≤ 120 * (j + 1); omega), (hk4 56 (by omega)).trans h56⟩ hI (lv_sub hl [2, 3, 4, 5, 6] rfl)
set_option maxHeartbeats 8000000 in
set_option maxRecDepth 100000 in
theorem st_doubts {p : Program} {l : Launch} {e : Env} {s : State} {m : MethodId} {below : List Frame} {meth : Method} {c : Code} {b L : Nat} {xs : Nat → Int32} {Q : State → Prop} {k : mC} {A : Nat → Prop} {ad : Nat → Nat} {r : Nat → Option Nat} {j : Nat} (C0 : LC p l s m meth c b L xs k A ad j) {d0 : Drawn} (hd0 : s.drawn.sameBut d0 lw_cs) {g : Nat → va_E} {H : Heap} {locs : List Loc} {ls : Array Slot} (hI : mI k ad 57 g A s H locs) (hl : lv_has ls 9 [(0, .ref b), (1, .ref (ad 0)), (2, .ref (ad 50)), (3, .ref (ad 56)), (4, .int (nI (4 * j)))]) (hLI : LI k ad g r j) (K : LK p l e s m below meth c b Q k A ad r j) : W p l e room_1 (s.setDrawn d0) m #[Value.ref b] below meth c H locs (57 + j) (2023 + 6 * j) Q (F0 m 352 ls []) := by
  obtain ⟨hx, hb, hml, hown, htsL, hst, hX, hbl, hAb, hEd, hL, hj4⟩ := C0
  have hts := dr_words htsL d0
  have hE := hEd d0
  have hX : va_X b L xs (s.setDrawn d0) s.heap := hX
  obtain ⟨uns, play, rd, n, lat, gar, T, ⟨came, mis, lost, bel, fig, fi, u, z, F⟩, ⟨came', mis', lost', bel', fig', u', ln, pg⟩, th, fo, hC, hM, ⟨e1, e2, e3, e4, e5, e6, hR2, hR3⟩, hW, hwf, hmw, hcj, h56⟩ := hLI
  have f1 : came = came' := e1
  have f2 : mis = mis' := e2
  have f3 : lost = lost' := e3
  have f4 : bel = bel' := e4
  have f5 : fig = fig' := e5
  have f6 : u = u' := Eq.symm e6
  clear e1 e2 e3 e4 e5 e6
  subst f1 f2 f3 f4 f5 f6
  have hR : PgR (fi, u, z, F) (u, ln, pg) := ⟨rfl, hR2, hR3⟩
  have hR2 : ∀ l, l < u → z (slt fi l) = ln l := hR2
  have hR3 : ∀ l, l < u → ∀ i, i < ln l → F (slt fi l) i = pg (40 * l + i) := hR3
  have hC : CR k ad g uns play rd n lat gar T (came, mis, lost, bel, fig, fi, u, z, F) r := hC
  have hM : MR k ad g th uns play rd n lat gar T (came, mis, lost, bel, fig, u, ln, pg) := hM
  have hwf : cWf (fi, u, z, F) := hwf
  have hmw : mWf (u, ln, pg) := hmw
  have hcj : came ≤ 120 * j := hcj
  have hcame : came < 2000000000 := by omega
  have hu20 : u ≤ 20 := hmw.2.1
  have hn120 : n ≤ 120 := hW.2.2.1
  have hrdn : rd ≤ n := hW.2.1
  have hpl9 : play ≤ 9 := hW.1
  have hY : YR (came, mis, lost, bel, fig, fi, u, z, F) (came, mis, lost, bel, fig, u, ln, pg) := ⟨rfl, rfl, rfl, rfl, rfl, hR⟩
  refine lv_aload_n hx hb dL_law_352 rfl (lv_at hl 1 rfl) ?_
  refine lv_aload_n hx hb dL_law_353 rfl (lv_at hl 0 rfl) ?_
  refine lv_iload hx hb dL_law_354 (lv_at hl 4 rfl) ?_
  refine lv_iconst (v := nI 1) hx hb dL_law_356 (by decide) ?_
  refine m_iaddN hx hb dL_law_357 ?_
  refine va_sld hx hb hX hbl hAb hI.2 (vp_in_nI (n := (4 * j) + 1) (by omega) (by omega)) dL_law_358 ?_
  refine m_top (y := xs ((4 * j) + 1)) (by rw [nI_clamp (by omega)]) ?_
  refine lv_aload_n hx hb dL_law_359 rfl (lv_at hl 3 rfl) ?_
  obtain ⟨p0, hp0⟩ : ∃ zz, zz = xs ((4 * j) + 1) := ⟨_, rfl⟩
  refine m_stk (show ([.ref (ad 56), .int (xs ((4 * j) + 1)), .ref (ad 0)] : List Value) = [.ref (ad 56), .int p0, .ref (ad 0)] from by rw [hp0]) ?_
  refine m_callSL (As := [.ref (ad 0), .int p0, .ref (ad 56)]) (rest := []) ⟨hx, hb, hml, hown, hts⟩ hE hI (c_L_doubts k l hst ad 57 g _ uns play rd n lat gar T came mis lost bel fig fi u z F r p0 fo (by omega) hW hwf hcame hC h56) (vx_cwSW 3 hts gL_law_L_doubts rfl rfl rfl (by decide +kernel) ⟨Nat.le_of_ble_eq_true rfl, Nat.le_of_ble_eq_true rfl⟩) rfl hl.1 rfl (Nat.le_of_ble_eq_true rfl) dL_law_360 ⟨by show 57 + j + 1 ≤ 601024; omega, by show 2023 + 6 * j + 6 ≤ 7293034; omega⟩ (fun r9 g9 H locs hp hI => ?_)
  rcases hp with ⟨hr9, hok0, ⟨fo1, h561, hfo1⟩, hC9, hk9⟩ | ⟨hr9, hba0, hgg⟩
  · subst hr9
    have hM9 : MR k ad g9 th uns play rd n lat gar T (came, mis, lost, bel, fig, u, ln, pg) := MR.kept hM (fun i h1 h2 => hk9 i (by omega) (by omega))
    refine lv_istore (lv' := [(5, .int (nI 0)), (0, .ref b), (1, .ref (ad 0)), (2, .ref (ad 50)), (3, .ref (ad 56)), (4, .int (nI (4 * j)))]) hx hb dL_law_363 hl (by decide) rfl (fun ls hl => ?_)
    refine lv_aload_n hx hb dL_law_365 rfl (lv_at hl 3 rfl) ?_
    refine lv_aload_n hx hb dL_law_366 rfl (lv_at hl 1 rfl) ?_
    refine lv_iload hx hb dL_law_367 (lv_at hl 5 rfl) ?_
    refine lv_iconst (v := nI 1) hx hb dL_law_369 (by decide) ?_
    refine m_iaddN hx hb dL_law_370 ?_
    refine va_sld hx hb hX hbl hAb hI.2 (vp_in_nI (n := (4 * j) + 1) (by omega) (by omega)) dL_law_371 ?_
    refine m_top (y := xs ((4 * j) + 1)) (by rw [nI_clamp (by omega)]) ?_
    refine m_stk (show ([.int (xs ((4 * j) + 1)), .ref (ad 50)] : List Value) = [.int p0, .ref (ad 50)] from by rw [hp0]) ?_
    refine m_callVi (As := [.int p0]) (rest := []) ⟨hx, hb, hml, hown, hts⟩ hE hI (c_X4_doubts k l ad 57 g9 _ th uns play rd n lat gar T came mis lost bel fig u ln pg p0 (by omega) hW hmw hcame hM9) (cwV 1 hts gL_law_X4_doubts rfl rfl rfl (by decide +kernel) ⟨Nat.le_of_ble_eq_true rfl, Nat.le_of_ble_eq_true rfl⟩) (i := 50) (by omega) hM9.1 rfl rfl hl.1 rfl (Nat.le_of_ble_eq_true rfl) dL_law_372 ⟨by show 57 + j + 1 ≤ 601024; omega, by show 2023 + 6 * j + 6 ≤ 7293034; omega⟩ (fun r9 g4 H locs hp hI => ?_)
    obtain ⟨hp, hk4⟩ := hp
    rcases hp with ⟨hxo0, hr4, hM4⟩ | ⟨hxb0, hM4⟩
    · subst hr4
      have hC4 : CR k ad g4 uns play rd n lat gar T (came, mis, lost, bel, fig, fi, u, z, F) r := CR.kept hC9 (fun i hi => hk4 i (Or.inl hi))
      have h564 : g4 56 = .inl (k.2.1.2.2, 1, .inr (.inl fo1)) := (hk4 56 (by omega)).trans h561
      have hW4 : CW play rd n lat gar T := hW
      refine lv_istore (lv' := [(6, .int (nI (dbt (tn p0) fig 5))), (5, .int (nI 0)), (0, .ref b), (1, .ref (ad 0)), (2, .ref (ad 50)), (3, .ref (ad 56)), (4, .int (nI (4 * j)))]) hx hb dL_law_375 hl (by decide) rfl (fun ls hl => ?_)
      refine lv_aload_n hx hb dL_law_377 rfl (lv_at hl 4 rfl) ?_
      refine m_callVi (As := []) (rest := []) ⟨hx, hb, hml, hown, hts⟩ hE hI (c_X4_thrown k l ad 57 g4 _ 0 uns play rd n lat gar T came mis lost bel fig u ln pg (by omega) hW4 hmw (by omega) hM4) (cwV 0 hts gL_law_X4_thrown rfl rfl rfl (by decide +kernel) ⟨Nat.le_of_ble_eq_true rfl, Nat.le_of_ble_eq_true rfl⟩) (i := 50) (by omega) hM4.1 rfl rfl hl.1 rfl (Nat.le_of_ble_eq_true rfl) dL_law_378 ⟨by show 57 + j + 1 ≤ 601024; omega, by show 2023 + 6 * j + 6 ≤ 7293034; omega⟩ (m_deti (fun H locs hI => ?_))
      refine lv_iload hx hb dL_law_381 (lv_at hl 1 rfl) ?_
      refine m_ceqN (tgt := 388) hx hb (by omega) (by omega) dL_law_383 (by decide) (fun c_383 => ?_) (fun c => absurd c (by decide))
      refine lv_iload hx hb dL_law_388 (lv_at hl 1 rfl) ?_
      refine m_zneN (tgt := 405) hx hb (by omega) dL_law_390 (by decide) (fun c => absurd c (by decide)) (fun c_390 => ?_)
      refine lv_aload_n hx hb dL_law_393 rfl (lv_at hl 5 rfl) ?_
      refine lv_iconst (v := nI 0) hx hb dL_law_394 (by decide) ?_
      refine m_lald hx hb hE hI 56 (by omega) (j := 0) h564 (by omega) (by omega) dL_law_395 ?_
      refine lv_iload hx hb dL_law_396 (lv_at hl 0 rfl) ?_
      refine lv_i2l (v := (nI (dbt (tn p0) fig 5)).toInt64) hx hb dL_law_398 rfl ?_
      refine W.lcmp hx hb dL_law_399 ?_
      refine m_top (y := nI 0) (show lg_cmp (fo1 0) ((nI (dbt (tn p0) fig 5)).toInt64) = nI 0 from by rw [nI_0]; refine (lg_cmp_eq _ _).mpr ?_; rw [hfo1]) ?_
      refine m_zeqN (tgt := 405) hx hb (by omega) dL_law_400 (by decide) (fun c_400 => ?_) (fun c => absurd c (by decide))
      refine lv_goto (tgt := 1350) hx hb dL_law_405 (by decide) ?_
      refine m_cs (c1 := 57 + (j + 1)) (s1 := 2023 + 6 * (j + 1)) (by omega) (by omega) ?_
      exact K d0 g4 H locs ls hd0 ⟨_, _, _, _, _, _, _, _, _, _, _, hC4, hM4, hY, hW4, hwf, hmw, (by show came ≤ 120 * (j + 1); omega), h564⟩ hI (lv_sub hl [2, 3, 4, 5, 6] rfl)
    · exact absurd (hok0.symm.trans hxb0) (by decide)
  · subst hr9
    rw [hgg] at hI
    refine lv_istore (lv' := [(5, .int (nI 1)), (0, .ref b), (1, .ref (ad 0)), (2, .ref (ad 50)), (3, .ref (ad 56)), (4, .int (nI (4 * j)))]) hx hb dL_law_363 hl (by decide) rfl (fun ls hl => ?_)
    refine lv_aload_n hx hb dL_law_365 rfl (lv_at hl 3 rfl) ?_
    refine lv_aload_n hx hb dL_law_366 rfl (lv_at hl 1 rfl) ?_
    refine lv_iload hx hb dL_law_367 (lv_at hl 5 rfl) ?_
    refine lv_iconst (v := nI 1) hx hb dL_law_369 (by decide) ?_
    refine m_iaddN hx hb dL_law_370 ?_
    refine va_sld hx hb hX hbl hAb hI.2 (vp_in_nI (n := (4 * j) + 1) (by omega) (by omega)) dL_law_371 ?_
    refine m_top (y := xs ((4 * j) + 1)) (by rw [nI_clamp (by omega)]) ?_
    refine m_stk (show ([.int (xs ((4 * j) + 1)), .ref (ad 50)] : List Value) = [.int p0, .ref (ad 50)] from by rw [hp0]) ?_
    refine m_callVi (As := [.int p0]) (rest := []) ⟨hx, hb, hml, hown, hts⟩ hE hI (c_X4_doubts k l ad 57 g _ th uns play rd n lat gar T came mis lost bel fig u ln pg p0 (by omega) hW hmw hcame hM) (cwV 1 hts gL_law_X4_doubts rfl rfl rfl (by decide +kernel) ⟨Nat.le_of_ble_eq_true rfl, Nat.le_of_ble_eq_true rfl⟩) (i := 50) (by omega) hM.1 rfl rfl hl.1 rfl (Nat.le_of_ble_eq_true rfl) dL_law_372 ⟨by show 57 + j + 1 ≤ 601024; omega, by show 2023 + 6 * j + 6 ≤ 7293034; omega⟩ (fun r9 g4 H locs hp hI => ?_)
    obtain ⟨hp, hk4⟩ := hp
    rcases hp with ⟨hxo0, hr4, hM4⟩ | ⟨hxb0, hM4⟩
    · exact absurd (hxo0.symm.trans hba0) (by decide)
    · refine lv_istore (lv' := [(6, .int r9), (5, .int (nI 1)), (0, .ref b), (1, .ref (ad 0)), (2, .ref (ad 50)), (3, .ref (ad 56)), (4, .int (nI (4 * j)))]) hx hb dL_law_375 hl (by decide) rfl (fun ls hl => ?_)
      refine lv_aload_n hx hb dL_law_377 rfl (lv_at hl 4 rfl) ?_
      refine m_callVi (As := []) (rest := []) ⟨hx, hb, hml, hown, hts⟩ hE hI (c_X4_thrown k l ad 57 g4 _ 1 uns play rd n lat gar T came mis lost bel fig u ln pg (by omega) hW hmw (by omega) hM4) (cwV 0 hts gL_law_X4_thrown rfl rfl rfl (by decide +kernel) ⟨Nat.le_of_ble_eq_true rfl, Nat.le_of_ble_eq_true rfl⟩) (i := 50) (by omega) hM4.1 rfl rfl hl.1 rfl (Nat.le_of_ble_eq_true rfl) dL_law_378 ⟨by show 57 + j + 1 ≤ 601024; omega, by show 2023 + 6 * j + 6 ≤ 7293034; omega⟩ (m_deti (fun H locs hI => ?_))
      refine lv_iload hx hb dL_law_381 (lv_at hl 1 rfl) ?_
      refine m_ceqN (tgt := 388) hx hb (by omega) (by omega) dL_law_383 (by decide) (fun c_383 => ?_) (fun c => absurd c (by decide))
      refine lv_iload hx hb dL_law_388 (lv_at hl 1 rfl) ?_
      refine m_zneN (tgt := 405) hx hb (by omega) dL_law_390 (by decide) (fun c_390 => ?_) (fun c => absurd c (by decide))
      refine lv_goto (tgt := 1350) hx hb dL_law_405 (by decide) ?_
      refine m_cs (c1 := 57 + (j + 1)) (s1 := 2023 + 6 * (j + 1)) (by omega) (by omega) ?_
      exact K d0 g4 H locs ls hd0 ⟨_, _, _, _, _, _, _, _, _, _, _, CR.kept hC (fun i hi => hk4 i (Or.inl hi)), hM4, hY, hW, hwf, hmw, (by show came ≤ 120 * (j + 1); omega), (hk4 56 (by omega)).trans h56⟩ hI (lv_sub hl [2, 3, 4, 5, 6] rfl)
set_option maxHeartbeats 8000000 in
set_option maxRecDepth 100000 in
theorem st_setLine {p : Program} {l : Launch} {e : Env} {s : State} {m : MethodId} {below : List Frame} {meth : Method} {c : Code} {b L : Nat} {xs : Nat → Int32} {Q : State → Prop} {k : mC} {A : Nat → Prop} {ad : Nat → Nat} {r : Nat → Option Nat} {j : Nat} (C0 : LC p l s m meth c b L xs k A ad j) {d0 : Drawn} (hd0 : s.drawn.sameBut d0 lw_cs) {g : Nat → va_E} {H : Heap} {locs : List Loc} {ls : Array Slot} (hI : mI k ad 57 g A s H locs) (hl : lv_has ls 9 [(0, .ref b), (1, .ref (ad 0)), (2, .ref (ad 50)), (3, .ref (ad 56)), (4, .int (nI (4 * j)))]) (hLI : LI k ad g r j) (K : LK p l e s m below meth c b Q k A ad r j) : W p l e room_1 (s.setDrawn d0) m #[Value.ref b] below meth c H locs (57 + j) (2023 + 6 * j) Q (F0 m 408 ls []) := by
  obtain ⟨hx, hb, hml, hown, htsL, hst, hX, hbl, hAb, hEd, hL, hj4⟩ := C0
  have hts := dr_words htsL d0
  have hE := hEd d0
  have hX : va_X b L xs (s.setDrawn d0) s.heap := hX
  obtain ⟨uns, play, rd, n, lat, gar, T, ⟨came, mis, lost, bel, fig, fi, u, z, F⟩, ⟨came', mis', lost', bel', fig', u', ln, pg⟩, th, fo, hC, hM, ⟨e1, e2, e3, e4, e5, e6, hR2, hR3⟩, hW, hwf, hmw, hcj, h56⟩ := hLI
  have f1 : came = came' := e1
  have f2 : mis = mis' := e2
  have f3 : lost = lost' := e3
  have f4 : bel = bel' := e4
  have f5 : fig = fig' := e5
  have f6 : u = u' := Eq.symm e6
  clear e1 e2 e3 e4 e5 e6
  subst f1 f2 f3 f4 f5 f6
  have hR : PgR (fi, u, z, F) (u, ln, pg) := ⟨rfl, hR2, hR3⟩
  have hR2 : ∀ l, l < u → z (slt fi l) = ln l := hR2
  have hR3 : ∀ l, l < u → ∀ i, i < ln l → F (slt fi l) i = pg (40 * l + i) := hR3
  have hC : CR k ad g uns play rd n lat gar T (came, mis, lost, bel, fig, fi, u, z, F) r := hC
  have hM : MR k ad g th uns play rd n lat gar T (came, mis, lost, bel, fig, u, ln, pg) := hM
  have hwf : cWf (fi, u, z, F) := hwf
  have hmw : mWf (u, ln, pg) := hmw
  have hcj : came ≤ 120 * j := hcj
  have hcame : came < 2000000000 := by omega
  have hu20 : u ≤ 20 := hmw.2.1
  have hn120 : n ≤ 120 := hW.2.2.1
  have hrdn : rd ≤ n := hW.2.1
  have hpl9 : play ≤ 9 := hW.1
  have hY : YR (came, mis, lost, bel, fig, fi, u, z, F) (came, mis, lost, bel, fig, u, ln, pg) := ⟨rfl, rfl, rfl, rfl, rfl, hR⟩
  refine lv_aload_n hx hb dL_law_408 rfl (lv_at hl 1 rfl) ?_
  refine lv_aload_n hx hb dL_law_409 rfl (lv_at hl 0 rfl) ?_
  refine lv_iload hx hb dL_law_410 (lv_at hl 4 rfl) ?_
  refine lv_iconst (v := nI 1) hx hb dL_law_412 (by decide) ?_
  refine m_iaddN hx hb dL_law_413 ?_
  refine va_sld hx hb hX hbl hAb hI.2 (vp_in_nI (n := (4 * j) + 1) (by omega) (by omega)) dL_law_414 ?_
  refine m_top (y := xs ((4 * j) + 1)) (by rw [nI_clamp (by omega)]) ?_
  refine lv_aload_n hx hb dL_law_415 rfl (lv_at hl 0 rfl) ?_
  refine lv_iload hx hb dL_law_416 (lv_at hl 4 rfl) ?_
  refine lv_iconst (v := nI 2) hx hb dL_law_418 (by decide) ?_
  refine m_iaddN hx hb dL_law_419 ?_
  refine va_sld hx hb hX hbl hAb hI.2 (vp_in_nI (n := (4 * j) + 2) (by omega) (by omega)) dL_law_420 ?_
  refine m_top (y := xs ((4 * j) + 2)) (by rw [nI_clamp (by omega)]) ?_
  refine lv_aload_n hx hb dL_law_421 rfl (lv_at hl 0 rfl) ?_
  refine lv_iload hx hb dL_law_422 (lv_at hl 4 rfl) ?_
  refine lv_iconst (v := nI 3) hx hb dL_law_424 (by decide) ?_
  refine m_iaddN hx hb dL_law_425 ?_
  refine va_sld hx hb hX hbl hAb hI.2 (vp_in_nI (n := (4 * j) + 3) (by omega) (by omega)) dL_law_426 ?_
  refine m_top (y := xs ((4 * j) + 3)) (by rw [nI_clamp (by omega)]) ?_
  refine lv_aload_n hx hb dL_law_427 rfl (lv_at hl 3 rfl) ?_
  obtain ⟨p0, hp0⟩ : ∃ zz, zz = xs ((4 * j) + 1) := ⟨_, rfl⟩
  obtain ⟨p1, hp1⟩ : ∃ zz, zz = xs ((4 * j) + 2) := ⟨_, rfl⟩
  obtain ⟨p2, hp2⟩ : ∃ zz, zz = xs ((4 * j) + 3) := ⟨_, rfl⟩
  refine m_stk (show ([.ref (ad 56), .int (xs ((4 * j) + 3)), .int (xs ((4 * j) + 2)), .int (xs ((4 * j) + 1)), .ref (ad 0)] : List Value) = [.ref (ad 56), .int p2, .int p1, .int p0, .ref (ad 0)] from by rw [hp0, hp1, hp2]) ?_
  refine m_callSL (As := [.ref (ad 0), .int p0, .int p1, .int p2, .ref (ad 56)]) (rest := []) ⟨hx, hb, hml, hown, hts⟩ hE hI (c_L_setLine k l hst ad 57 g _ uns play rd n lat gar T came mis lost bel fig fi u z F r p0 p1 p2 fo (by omega) hW hwf hcame hC h56) (vx_cwSW 5 hts gL_law_L_setLine rfl rfl rfl (by decide +kernel) ⟨Nat.le_of_ble_eq_true rfl, Nat.le_of_ble_eq_true rfl⟩) rfl hl.1 rfl (Nat.le_of_ble_eq_true rfl) dL_law_428 ⟨by show 57 + j + 1 ≤ 601024; omega, by show 2023 + 6 * j + 6 ≤ 7293034; omega⟩ (fun r9 g9 H locs hp hI => ?_)
  rcases hp with ⟨hr9, hok0, hok1, ⟨fo1, h561, hfo1⟩, hC9, hk9⟩ | ⟨hr9, hba0, hgg⟩ | ⟨hr9, hba0, hba1, hgg⟩
  · subst hr9
    have hM9 : MR k ad g9 th uns play rd n lat gar T (came, mis, lost, bel, fig, u, ln, pg) := MR.kept hM (fun i h1 h2 => hk9 i (by omega) (by omega))
    refine lv_istore (lv' := [(5, .int (nI 0)), (0, .ref b), (1, .ref (ad 0)), (2, .ref (ad 50)), (3, .ref (ad 56)), (4, .int (nI (4 * j)))]) hx hb dL_law_431 hl (by decide) rfl (fun ls hl => ?_)
    refine lv_aload_n hx hb dL_law_433 rfl (lv_at hl 3 rfl) ?_
    refine lv_aload_n hx hb dL_law_434 rfl (lv_at hl 1 rfl) ?_
    refine lv_iload hx hb dL_law_435 (lv_at hl 5 rfl) ?_
    refine lv_iconst (v := nI 1) hx hb dL_law_437 (by decide) ?_
    refine m_iaddN hx hb dL_law_438 ?_
    refine va_sld hx hb hX hbl hAb hI.2 (vp_in_nI (n := (4 * j) + 1) (by omega) (by omega)) dL_law_439 ?_
    refine m_top (y := xs ((4 * j) + 1)) (by rw [nI_clamp (by omega)]) ?_
    refine lv_aload_n hx hb dL_law_440 rfl (lv_at hl 1 rfl) ?_
    refine lv_iload hx hb dL_law_441 (lv_at hl 5 rfl) ?_
    refine lv_iconst (v := nI 2) hx hb dL_law_443 (by decide) ?_
    refine m_iaddN hx hb dL_law_444 ?_
    refine va_sld hx hb hX hbl hAb hI.2 (vp_in_nI (n := (4 * j) + 2) (by omega) (by omega)) dL_law_445 ?_
    refine m_top (y := xs ((4 * j) + 2)) (by rw [nI_clamp (by omega)]) ?_
    refine lv_aload_n hx hb dL_law_446 rfl (lv_at hl 1 rfl) ?_
    refine lv_iload hx hb dL_law_447 (lv_at hl 5 rfl) ?_
    refine lv_iconst (v := nI 3) hx hb dL_law_449 (by decide) ?_
    refine m_iaddN hx hb dL_law_450 ?_
    refine va_sld hx hb hX hbl hAb hI.2 (vp_in_nI (n := (4 * j) + 3) (by omega) (by omega)) dL_law_451 ?_
    refine m_top (y := xs ((4 * j) + 3)) (by rw [nI_clamp (by omega)]) ?_
    refine m_stk (show ([.int (xs ((4 * j) + 3)), .int (xs ((4 * j) + 2)), .int (xs ((4 * j) + 1)), .ref (ad 50)] : List Value) = [.int p2, .int p1, .int p0, .ref (ad 50)] from by rw [hp0, hp1, hp2]) ?_
    refine m_callVi (As := [.int p0, .int p1, .int p2]) (rest := []) ⟨hx, hb, hml, hown, hts⟩ hE hI (c_X4_setLine k l ad 57 g9 _ th uns play rd n lat gar T came mis lost bel fig u ln pg p0 p1 p2 (by omega) hW hmw hcame hM9) (cwV 3 hts gL_law_X4_setLine rfl rfl rfl (by decide +kernel) ⟨Nat.le_of_ble_eq_true rfl, Nat.le_of_ble_eq_true rfl⟩) (i := 50) (by omega) hM9.1 rfl rfl hl.1 rfl (Nat.le_of_ble_eq_true rfl) dL_law_452 ⟨by show 57 + j + 1 ≤ 601024; omega, by show 2023 + 6 * j + 6 ≤ 7293034; omega⟩ (fun r9 g4 H locs hp hI => ?_)
    obtain ⟨hp, hk4⟩ := hp
    rcases hp with ⟨⟨hxo0, hxo1⟩, hr4, hM4⟩ | ⟨hxb0, hM4⟩ | ⟨⟨hxb0, hxb1⟩, hM4⟩
    · subst hr4
      have hC4 : CR k ad g4 uns play rd n (upd lat (tn p0) p1) (va_up gar (tn p0) (tn p2)) T (came, mis, lost, bel, fig, fi, u, z, F) r := CR.kept hC9 (fun i hi => hk4 i (Or.inl hi))
      have h564 : g4 56 = .inl (k.2.1.2.2, 1, .inr (.inl fo1)) := (hk4 56 (by omega)).trans h561
      have ht0 : tn p0 < 16 := inN_tn hok0 (by omega)
      have hW4 : CW play rd n (upd lat (tn p0) p1) (va_up gar (tn p0) (tn p2)) T := hW.line (inN_tn (Bool.and_eq_true_iff.mp hok1).2 (by omega)) (in9_in (Bool.and_eq_true_iff.mp hok1).1)
      refine lv_istore (lv' := [(6, .int (lat (tn p0))), (5, .int (nI 0)), (0, .ref b), (1, .ref (ad 0)), (2, .ref (ad 50)), (3, .ref (ad 56)), (4, .int (nI (4 * j)))]) hx hb dL_law_455 hl (by decide) rfl (fun ls hl => ?_)
      refine lv_aload_n hx hb dL_law_457 rfl (lv_at hl 4 rfl) ?_
      refine m_callVi (As := []) (rest := []) ⟨hx, hb, hml, hown, hts⟩ hE hI (c_X4_thrown k l ad 57 g4 _ 0 uns play rd n (upd lat (tn p0) p1) (va_up gar (tn p0) (tn p2)) T came mis lost bel fig u ln pg (by omega) hW4 hmw (by omega) hM4) (cwV 0 hts gL_law_X4_thrown rfl rfl rfl (by decide +kernel) ⟨Nat.le_of_ble_eq_true rfl, Nat.le_of_ble_eq_true rfl⟩) (i := 50) (by omega) hM4.1 rfl rfl hl.1 rfl (Nat.le_of_ble_eq_true rfl) dL_law_458 ⟨by show 57 + j + 1 ≤ 601024; omega, by show 2023 + 6 * j + 6 ≤ 7293034; omega⟩ (m_deti (fun H locs hI => ?_))
      refine lv_iload hx hb dL_law_461 (lv_at hl 1 rfl) ?_
      refine m_ceqN (tgt := 468) hx hb (by omega) (by omega) dL_law_463 (by decide) (fun c_463 => ?_) (fun c => absurd c (by decide))
      refine lv_iload hx hb dL_law_468 (lv_at hl 1 rfl) ?_
      refine m_zneN (tgt := 485) hx hb (by omega) dL_law_470 (by decide) (fun c => absurd c (by decide)) (fun c_470 => ?_)
      refine lv_aload_n hx hb dL_law_473 rfl (lv_at hl 5 rfl) ?_
      refine lv_iconst (v := nI 0) hx hb dL_law_474 (by decide) ?_
      refine m_lald hx hb hE hI 56 (by omega) (j := 0) h564 (by omega) (by omega) dL_law_475 ?_
      refine lv_iload hx hb dL_law_476 (lv_at hl 0 rfl) ?_
      refine lv_i2l (v := (lat (tn p0)).toInt64) hx hb dL_law_478 rfl ?_
      refine W.lcmp hx hb dL_law_479 ?_
      refine m_top (y := nI 0) (show lg_cmp (fo1 0) ((lat (tn p0)).toInt64) = nI 0 from by rw [nI_0]; refine (lg_cmp_eq _ _).mpr ?_; rw [hfo1]) ?_
      refine m_zeqN (tgt := 485) hx hb (by omega) dL_law_480 (by decide) (fun c_480 => ?_) (fun c => absurd c (by decide))
      refine lv_goto (tgt := 1350) hx hb dL_law_485 (by decide) ?_
      refine m_cs (c1 := 57 + (j + 1)) (s1 := 2023 + 6 * (j + 1)) (by omega) (by omega) ?_
      exact K d0 g4 H locs ls hd0 ⟨_, _, _, _, _, _, _, _, _, _, _, hC4, hM4, hY, hW4, hwf, hmw, (by show came ≤ 120 * (j + 1); omega), h564⟩ hI (lv_sub hl [2, 3, 4, 5, 6] rfl)
    · exact absurd (hok0.symm.trans hxb0) (by decide)
    · exact absurd (hok1.symm.trans hxb1) (by decide)
  · subst hr9
    rw [hgg] at hI
    refine lv_istore (lv' := [(5, .int (nI 1)), (0, .ref b), (1, .ref (ad 0)), (2, .ref (ad 50)), (3, .ref (ad 56)), (4, .int (nI (4 * j)))]) hx hb dL_law_431 hl (by decide) rfl (fun ls hl => ?_)
    refine lv_aload_n hx hb dL_law_433 rfl (lv_at hl 3 rfl) ?_
    refine lv_aload_n hx hb dL_law_434 rfl (lv_at hl 1 rfl) ?_
    refine lv_iload hx hb dL_law_435 (lv_at hl 5 rfl) ?_
    refine lv_iconst (v := nI 1) hx hb dL_law_437 (by decide) ?_
    refine m_iaddN hx hb dL_law_438 ?_
    refine va_sld hx hb hX hbl hAb hI.2 (vp_in_nI (n := (4 * j) + 1) (by omega) (by omega)) dL_law_439 ?_
    refine m_top (y := xs ((4 * j) + 1)) (by rw [nI_clamp (by omega)]) ?_
    refine lv_aload_n hx hb dL_law_440 rfl (lv_at hl 1 rfl) ?_
    refine lv_iload hx hb dL_law_441 (lv_at hl 5 rfl) ?_
    refine lv_iconst (v := nI 2) hx hb dL_law_443 (by decide) ?_
    refine m_iaddN hx hb dL_law_444 ?_
    refine va_sld hx hb hX hbl hAb hI.2 (vp_in_nI (n := (4 * j) + 2) (by omega) (by omega)) dL_law_445 ?_
    refine m_top (y := xs ((4 * j) + 2)) (by rw [nI_clamp (by omega)]) ?_
    refine lv_aload_n hx hb dL_law_446 rfl (lv_at hl 1 rfl) ?_
    refine lv_iload hx hb dL_law_447 (lv_at hl 5 rfl) ?_
    refine lv_iconst (v := nI 3) hx hb dL_law_449 (by decide) ?_
    refine m_iaddN hx hb dL_law_450 ?_
    refine va_sld hx hb hX hbl hAb hI.2 (vp_in_nI (n := (4 * j) + 3) (by omega) (by omega)) dL_law_451 ?_
    refine m_top (y := xs ((4 * j) + 3)) (by rw [nI_clamp (by omega)]) ?_
    refine m_stk (show ([.int (xs ((4 * j) + 3)), .int (xs ((4 * j) + 2)), .int (xs ((4 * j) + 1)), .ref (ad 50)] : List Value) = [.int p2, .int p1, .int p0, .ref (ad 50)] from by rw [hp0, hp1, hp2]) ?_
    refine m_callVi (As := [.int p0, .int p1, .int p2]) (rest := []) ⟨hx, hb, hml, hown, hts⟩ hE hI (c_X4_setLine k l ad 57 g _ th uns play rd n lat gar T came mis lost bel fig u ln pg p0 p1 p2 (by omega) hW hmw hcame hM) (cwV 3 hts gL_law_X4_setLine rfl rfl rfl (by decide +kernel) ⟨Nat.le_of_ble_eq_true rfl, Nat.le_of_ble_eq_true rfl⟩) (i := 50) (by omega) hM.1 rfl rfl hl.1 rfl (Nat.le_of_ble_eq_true rfl) dL_law_452 ⟨by show 57 + j + 1 ≤ 601024; omega, by show 2023 + 6 * j + 6 ≤ 7293034; omega⟩ (fun r9 g4 H locs hp hI => ?_)
    obtain ⟨hp, hk4⟩ := hp
    rcases hp with ⟨⟨hxo0, hxo1⟩, hr4, hM4⟩ | ⟨hxb0, hM4⟩ | ⟨⟨hxb0, hxb1⟩, hM4⟩
    · exact absurd (hxo0.symm.trans hba0) (by decide)
    · refine lv_istore (lv' := [(6, .int r9), (5, .int (nI 1)), (0, .ref b), (1, .ref (ad 0)), (2, .ref (ad 50)), (3, .ref (ad 56)), (4, .int (nI (4 * j)))]) hx hb dL_law_455 hl (by decide) rfl (fun ls hl => ?_)
      refine lv_aload_n hx hb dL_law_457 rfl (lv_at hl 4 rfl) ?_
      refine m_callVi (As := []) (rest := []) ⟨hx, hb, hml, hown, hts⟩ hE hI (c_X4_thrown k l ad 57 g4 _ 1 uns play rd n lat gar T came mis lost bel fig u ln pg (by omega) hW hmw (by omega) hM4) (cwV 0 hts gL_law_X4_thrown rfl rfl rfl (by decide +kernel) ⟨Nat.le_of_ble_eq_true rfl, Nat.le_of_ble_eq_true rfl⟩) (i := 50) (by omega) hM4.1 rfl rfl hl.1 rfl (Nat.le_of_ble_eq_true rfl) dL_law_458 ⟨by show 57 + j + 1 ≤ 601024; omega, by show 2023 + 6 * j + 6 ≤ 7293034; omega⟩ (m_deti (fun H locs hI => ?_))
      refine lv_iload hx hb dL_law_461 (lv_at hl 1 rfl) ?_
      refine m_ceqN (tgt := 468) hx hb (by omega) (by omega) dL_law_463 (by decide) (fun c_463 => ?_) (fun c => absurd c (by decide))
      refine lv_iload hx hb dL_law_468 (lv_at hl 1 rfl) ?_
      refine m_zneN (tgt := 485) hx hb (by omega) dL_law_470 (by decide) (fun c_470 => ?_) (fun c => absurd c (by decide))
      refine lv_goto (tgt := 1350) hx hb dL_law_485 (by decide) ?_
      refine m_cs (c1 := 57 + (j + 1)) (s1 := 2023 + 6 * (j + 1)) (by omega) (by omega) ?_
      exact K d0 g4 H locs ls hd0 ⟨_, _, _, _, _, _, _, _, _, _, _, CR.kept hC (fun i hi => hk4 i (Or.inl hi)), hM4, hY, hW, hwf, hmw, (by show came ≤ 120 * (j + 1); omega), (hk4 56 (by omega)).trans h56⟩ hI (lv_sub hl [2, 3, 4, 5, 6] rfl)
    · exact absurd (hxb0.symm.trans hba0) (by decide)
  · subst hr9
    rw [hgg] at hI
    refine lv_istore (lv' := [(5, .int (nI 2)), (0, .ref b), (1, .ref (ad 0)), (2, .ref (ad 50)), (3, .ref (ad 56)), (4, .int (nI (4 * j)))]) hx hb dL_law_431 hl (by decide) rfl (fun ls hl => ?_)
    refine lv_aload_n hx hb dL_law_433 rfl (lv_at hl 3 rfl) ?_
    refine lv_aload_n hx hb dL_law_434 rfl (lv_at hl 1 rfl) ?_
    refine lv_iload hx hb dL_law_435 (lv_at hl 5 rfl) ?_
    refine lv_iconst (v := nI 1) hx hb dL_law_437 (by decide) ?_
    refine m_iaddN hx hb dL_law_438 ?_
    refine va_sld hx hb hX hbl hAb hI.2 (vp_in_nI (n := (4 * j) + 1) (by omega) (by omega)) dL_law_439 ?_
    refine m_top (y := xs ((4 * j) + 1)) (by rw [nI_clamp (by omega)]) ?_
    refine lv_aload_n hx hb dL_law_440 rfl (lv_at hl 1 rfl) ?_
    refine lv_iload hx hb dL_law_441 (lv_at hl 5 rfl) ?_
    refine lv_iconst (v := nI 2) hx hb dL_law_443 (by decide) ?_
    refine m_iaddN hx hb dL_law_444 ?_
    refine va_sld hx hb hX hbl hAb hI.2 (vp_in_nI (n := (4 * j) + 2) (by omega) (by omega)) dL_law_445 ?_
    refine m_top (y := xs ((4 * j) + 2)) (by rw [nI_clamp (by omega)]) ?_
    refine lv_aload_n hx hb dL_law_446 rfl (lv_at hl 1 rfl) ?_
    refine lv_iload hx hb dL_law_447 (lv_at hl 5 rfl) ?_
    refine lv_iconst (v := nI 3) hx hb dL_law_449 (by decide) ?_
    refine m_iaddN hx hb dL_law_450 ?_
    refine va_sld hx hb hX hbl hAb hI.2 (vp_in_nI (n := (4 * j) + 3) (by omega) (by omega)) dL_law_451 ?_
    refine m_top (y := xs ((4 * j) + 3)) (by rw [nI_clamp (by omega)]) ?_
    refine m_stk (show ([.int (xs ((4 * j) + 3)), .int (xs ((4 * j) + 2)), .int (xs ((4 * j) + 1)), .ref (ad 50)] : List Value) = [.int p2, .int p1, .int p0, .ref (ad 50)] from by rw [hp0, hp1, hp2]) ?_
    refine m_callVi (As := [.int p0, .int p1, .int p2]) (rest := []) ⟨hx, hb, hml, hown, hts⟩ hE hI (c_X4_setLine k l ad 57 g _ th uns play rd n lat gar T came mis lost bel fig u ln pg p0 p1 p2 (by omega) hW hmw hcame hM) (cwV 3 hts gL_law_X4_setLine rfl rfl rfl (by decide +kernel) ⟨Nat.le_of_ble_eq_true rfl, Nat.le_of_ble_eq_true rfl⟩) (i := 50) (by omega) hM.1 rfl rfl hl.1 rfl (Nat.le_of_ble_eq_true rfl) dL_law_452 ⟨by show 57 + j + 1 ≤ 601024; omega, by show 2023 + 6 * j + 6 ≤ 7293034; omega⟩ (fun r9 g4 H locs hp hI => ?_)
    obtain ⟨hp, hk4⟩ := hp
    rcases hp with ⟨⟨hxo0, hxo1⟩, hr4, hM4⟩ | ⟨hxb0, hM4⟩ | ⟨⟨hxb0, hxb1⟩, hM4⟩
    · exact absurd (hxo1.symm.trans hba1) (by decide)
    · exact absurd (hba0.symm.trans hxb0) (by decide)
    · refine lv_istore (lv' := [(6, .int r9), (5, .int (nI 2)), (0, .ref b), (1, .ref (ad 0)), (2, .ref (ad 50)), (3, .ref (ad 56)), (4, .int (nI (4 * j)))]) hx hb dL_law_455 hl (by decide) rfl (fun ls hl => ?_)
      refine lv_aload_n hx hb dL_law_457 rfl (lv_at hl 4 rfl) ?_
      refine m_callVi (As := []) (rest := []) ⟨hx, hb, hml, hown, hts⟩ hE hI (c_X4_thrown k l ad 57 g4 _ 2 uns play rd n lat gar T came mis lost bel fig u ln pg (by omega) hW hmw (by omega) hM4) (cwV 0 hts gL_law_X4_thrown rfl rfl rfl (by decide +kernel) ⟨Nat.le_of_ble_eq_true rfl, Nat.le_of_ble_eq_true rfl⟩) (i := 50) (by omega) hM4.1 rfl rfl hl.1 rfl (Nat.le_of_ble_eq_true rfl) dL_law_458 ⟨by show 57 + j + 1 ≤ 601024; omega, by show 2023 + 6 * j + 6 ≤ 7293034; omega⟩ (m_deti (fun H locs hI => ?_))
      refine lv_iload hx hb dL_law_461 (lv_at hl 1 rfl) ?_
      refine m_ceqN (tgt := 468) hx hb (by omega) (by omega) dL_law_463 (by decide) (fun c_463 => ?_) (fun c => absurd c (by decide))
      refine lv_iload hx hb dL_law_468 (lv_at hl 1 rfl) ?_
      refine m_zneN (tgt := 485) hx hb (by omega) dL_law_470 (by decide) (fun c_470 => ?_) (fun c => absurd c (by decide))
      refine lv_goto (tgt := 1350) hx hb dL_law_485 (by decide) ?_
      refine m_cs (c1 := 57 + (j + 1)) (s1 := 2023 + 6 * (j + 1)) (by omega) (by omega) ?_
      exact K d0 g4 H locs ls hd0 ⟨_, _, _, _, _, _, _, _, _, _, _, CR.kept hC (fun i hi => hk4 i (Or.inl hi)), hM4, hY, hW, hwf, hmw, (by show came ≤ 120 * (j + 1); omega), (hk4 56 (by omega)).trans h56⟩ hI (lv_sub hl [2, 3, 4, 5, 6] rfl)
set_option maxHeartbeats 8000000 in
set_option maxRecDepth 100000 in
theorem st_setPlay {p : Program} {l : Launch} {e : Env} {s : State} {m : MethodId} {below : List Frame} {meth : Method} {c : Code} {b L : Nat} {xs : Nat → Int32} {Q : State → Prop} {k : mC} {A : Nat → Prop} {ad : Nat → Nat} {r : Nat → Option Nat} {j : Nat} (C0 : LC p l s m meth c b L xs k A ad j) {d0 : Drawn} (hd0 : s.drawn.sameBut d0 lw_cs) {g : Nat → va_E} {H : Heap} {locs : List Loc} {ls : Array Slot} (hI : mI k ad 57 g A s H locs) (hl : lv_has ls 9 [(0, .ref b), (1, .ref (ad 0)), (2, .ref (ad 50)), (3, .ref (ad 56)), (4, .int (nI (4 * j)))]) (hLI : LI k ad g r j) (K : LK p l e s m below meth c b Q k A ad r j) : W p l e room_1 (s.setDrawn d0) m #[Value.ref b] below meth c H locs (57 + j) (2023 + 6 * j) Q (F0 m 488 ls []) := by
  obtain ⟨hx, hb, hml, hown, htsL, hst, hX, hbl, hAb, hEd, hL, hj4⟩ := C0
  have hts := dr_words htsL d0
  have hE := hEd d0
  have hX : va_X b L xs (s.setDrawn d0) s.heap := hX
  obtain ⟨uns, play, rd, n, lat, gar, T, ⟨came, mis, lost, bel, fig, fi, u, z, F⟩, ⟨came', mis', lost', bel', fig', u', ln, pg⟩, th, fo, hC, hM, ⟨e1, e2, e3, e4, e5, e6, hR2, hR3⟩, hW, hwf, hmw, hcj, h56⟩ := hLI
  have f1 : came = came' := e1
  have f2 : mis = mis' := e2
  have f3 : lost = lost' := e3
  have f4 : bel = bel' := e4
  have f5 : fig = fig' := e5
  have f6 : u = u' := Eq.symm e6
  clear e1 e2 e3 e4 e5 e6
  subst f1 f2 f3 f4 f5 f6
  have hR : PgR (fi, u, z, F) (u, ln, pg) := ⟨rfl, hR2, hR3⟩
  have hR2 : ∀ l, l < u → z (slt fi l) = ln l := hR2
  have hR3 : ∀ l, l < u → ∀ i, i < ln l → F (slt fi l) i = pg (40 * l + i) := hR3
  have hC : CR k ad g uns play rd n lat gar T (came, mis, lost, bel, fig, fi, u, z, F) r := hC
  have hM : MR k ad g th uns play rd n lat gar T (came, mis, lost, bel, fig, u, ln, pg) := hM
  have hwf : cWf (fi, u, z, F) := hwf
  have hmw : mWf (u, ln, pg) := hmw
  have hcj : came ≤ 120 * j := hcj
  have hcame : came < 2000000000 := by omega
  have hu20 : u ≤ 20 := hmw.2.1
  have hn120 : n ≤ 120 := hW.2.2.1
  have hrdn : rd ≤ n := hW.2.1
  have hpl9 : play ≤ 9 := hW.1
  have hY : YR (came, mis, lost, bel, fig, fi, u, z, F) (came, mis, lost, bel, fig, u, ln, pg) := ⟨rfl, rfl, rfl, rfl, rfl, hR⟩
  refine lv_aload_n hx hb dL_law_488 rfl (lv_at hl 1 rfl) ?_
  refine lv_aload_n hx hb dL_law_489 rfl (lv_at hl 0 rfl) ?_
  refine lv_iload hx hb dL_law_490 (lv_at hl 4 rfl) ?_
  refine lv_iconst (v := nI 1) hx hb dL_law_492 (by decide) ?_
  refine m_iaddN hx hb dL_law_493 ?_
  refine va_sld hx hb hX hbl hAb hI.2 (vp_in_nI (n := (4 * j) + 1) (by omega) (by omega)) dL_law_494 ?_
  refine m_top (y := xs ((4 * j) + 1)) (by rw [nI_clamp (by omega)]) ?_
  refine lv_aload_n hx hb dL_law_495 rfl (lv_at hl 3 rfl) ?_
  obtain ⟨p0, hp0⟩ : ∃ zz, zz = xs ((4 * j) + 1) := ⟨_, rfl⟩
  refine m_stk (show ([.ref (ad 56), .int (xs ((4 * j) + 1)), .ref (ad 0)] : List Value) = [.ref (ad 56), .int p0, .ref (ad 0)] from by rw [hp0]) ?_
  refine m_callSL (As := [.ref (ad 0), .int p0, .ref (ad 56)]) (rest := []) ⟨hx, hb, hml, hown, hts⟩ hE hI (c_L_setPlay k l hst ad 57 g _ uns play rd n lat gar T came mis lost bel fig fi u z F r p0 fo (by omega) hW hwf hcame hC h56) (vx_cwSW 3 hts gL_law_L_setPlay rfl rfl rfl (by decide +kernel) ⟨Nat.le_of_ble_eq_true rfl, Nat.le_of_ble_eq_true rfl⟩) rfl hl.1 rfl (Nat.le_of_ble_eq_true rfl) dL_law_496 ⟨by show 57 + j + 1 ≤ 601024; omega, by show 2023 + 6 * j + 6 ≤ 7293034; omega⟩ (fun r9 g9 H locs hp hI => ?_)
  rcases hp with ⟨hr9, hok0, ⟨fo1, h561, hfo1⟩, hC9, hk9⟩ | ⟨hr9, hba0, hgg⟩
  · subst hr9
    have hM9 : MR k ad g9 th uns play rd n lat gar T (came, mis, lost, bel, fig, u, ln, pg) := MR.kept hM (fun i h1 h2 => hk9 i (by omega) (by omega))
    refine lv_istore (lv' := [(5, .int (nI 0)), (0, .ref b), (1, .ref (ad 0)), (2, .ref (ad 50)), (3, .ref (ad 56)), (4, .int (nI (4 * j)))]) hx hb dL_law_499 hl (by decide) rfl (fun ls hl => ?_)
    refine lv_aload_n hx hb dL_law_501 rfl (lv_at hl 3 rfl) ?_
    refine lv_aload_n hx hb dL_law_502 rfl (lv_at hl 1 rfl) ?_
    refine lv_iload hx hb dL_law_503 (lv_at hl 5 rfl) ?_
    refine lv_iconst (v := nI 1) hx hb dL_law_505 (by decide) ?_
    refine m_iaddN hx hb dL_law_506 ?_
    refine va_sld hx hb hX hbl hAb hI.2 (vp_in_nI (n := (4 * j) + 1) (by omega) (by omega)) dL_law_507 ?_
    refine m_top (y := xs ((4 * j) + 1)) (by rw [nI_clamp (by omega)]) ?_
    refine m_stk (show ([.int (xs ((4 * j) + 1)), .ref (ad 50)] : List Value) = [.int p0, .ref (ad 50)] from by rw [hp0]) ?_
    refine m_callVi (As := [.int p0]) (rest := []) ⟨hx, hb, hml, hown, hts⟩ hE hI (c_X4_setPlay k l ad 57 g9 _ th uns play rd n lat gar T came mis lost bel fig u ln pg p0 (by omega) hW hmw hcame hM9) (cwV 1 hts gL_law_X4_setPlay rfl rfl rfl (by decide +kernel) ⟨Nat.le_of_ble_eq_true rfl, Nat.le_of_ble_eq_true rfl⟩) (i := 50) (by omega) hM9.1 rfl rfl hl.1 rfl (Nat.le_of_ble_eq_true rfl) dL_law_508 ⟨by show 57 + j + 1 ≤ 601024; omega, by show 2023 + 6 * j + 6 ≤ 7293034; omega⟩ (fun r9 g4 H locs hp hI => ?_)
    obtain ⟨hp, hk4⟩ := hp
    rcases hp with ⟨hxo0, hr4, hM4⟩ | ⟨hxb0, hM4⟩
    · subst hr4
      have hC4 : CR k ad g4 uns (tn p0) rd n lat gar T (came, mis, lost, bel, fig, fi, u, z, F) r := CR.kept hC9 (fun i hi => hk4 i (Or.inl hi))
      have h564 : g4 56 = .inl (k.2.1.2.2, 1, .inr (.inl fo1)) := (hk4 56 (by omega)).trans h561
      have ht0 : tn p0 < 10 := inN_tn hok0 (by omega)
      have hW4 : CW (tn p0) rd n lat gar T := hW.play (by omega)
      refine lv_istore (lv' := [(6, .int (nI play)), (5, .int (nI 0)), (0, .ref b), (1, .ref (ad 0)), (2, .ref (ad 50)), (3, .ref (ad 56)), (4, .int (nI (4 * j)))]) hx hb dL_law_511 hl (by decide) rfl (fun ls hl => ?_)
      refine lv_aload_n hx hb dL_law_513 rfl (lv_at hl 4 rfl) ?_
      refine m_callVi (As := []) (rest := []) ⟨hx, hb, hml, hown, hts⟩ hE hI (c_X4_thrown k l ad 57 g4 _ 0 uns (tn p0) rd n lat gar T came mis lost bel fig u ln pg (by omega) hW4 hmw (by omega) hM4) (cwV 0 hts gL_law_X4_thrown rfl rfl rfl (by decide +kernel) ⟨Nat.le_of_ble_eq_true rfl, Nat.le_of_ble_eq_true rfl⟩) (i := 50) (by omega) hM4.1 rfl rfl hl.1 rfl (Nat.le_of_ble_eq_true rfl) dL_law_514 ⟨by show 57 + j + 1 ≤ 601024; omega, by show 2023 + 6 * j + 6 ≤ 7293034; omega⟩ (m_deti (fun H locs hI => ?_))
      refine lv_iload hx hb dL_law_517 (lv_at hl 1 rfl) ?_
      refine m_ceqN (tgt := 524) hx hb (by omega) (by omega) dL_law_519 (by decide) (fun c_519 => ?_) (fun c => absurd c (by decide))
      refine lv_iload hx hb dL_law_524 (lv_at hl 1 rfl) ?_
      refine m_zneN (tgt := 541) hx hb (by omega) dL_law_526 (by decide) (fun c => absurd c (by decide)) (fun c_526 => ?_)
      refine lv_aload_n hx hb dL_law_529 rfl (lv_at hl 5 rfl) ?_
      refine lv_iconst (v := nI 0) hx hb dL_law_530 (by decide) ?_
      refine m_lald hx hb hE hI 56 (by omega) (j := 0) h564 (by omega) (by omega) dL_law_531 ?_
      refine lv_iload hx hb dL_law_532 (lv_at hl 0 rfl) ?_
      refine lv_i2l (v := (nI play).toInt64) hx hb dL_law_534 rfl ?_
      refine W.lcmp hx hb dL_law_535 ?_
      refine m_top (y := nI 0) (show lg_cmp (fo1 0) ((nI play).toInt64) = nI 0 from by rw [nI_0]; refine (lg_cmp_eq _ _).mpr ?_; rw [hfo1]) ?_
      refine m_zeqN (tgt := 541) hx hb (by omega) dL_law_536 (by decide) (fun c_536 => ?_) (fun c => absurd c (by decide))
      refine lv_goto (tgt := 1350) hx hb dL_law_541 (by decide) ?_
      refine m_cs (c1 := 57 + (j + 1)) (s1 := 2023 + 6 * (j + 1)) (by omega) (by omega) ?_
      exact K d0 g4 H locs ls hd0 ⟨_, _, _, _, _, _, _, _, _, _, _, hC4, hM4, hY, hW4, hwf, hmw, (by show came ≤ 120 * (j + 1); omega), h564⟩ hI (lv_sub hl [2, 3, 4, 5, 6] rfl)
    · exact absurd (hok0.symm.trans hxb0) (by decide)
  · subst hr9
    rw [hgg] at hI
    refine lv_istore (lv' := [(5, .int (nI 1)), (0, .ref b), (1, .ref (ad 0)), (2, .ref (ad 50)), (3, .ref (ad 56)), (4, .int (nI (4 * j)))]) hx hb dL_law_499 hl (by decide) rfl (fun ls hl => ?_)
    refine lv_aload_n hx hb dL_law_501 rfl (lv_at hl 3 rfl) ?_
    refine lv_aload_n hx hb dL_law_502 rfl (lv_at hl 1 rfl) ?_
    refine lv_iload hx hb dL_law_503 (lv_at hl 5 rfl) ?_
    refine lv_iconst (v := nI 1) hx hb dL_law_505 (by decide) ?_
    refine m_iaddN hx hb dL_law_506 ?_
    refine va_sld hx hb hX hbl hAb hI.2 (vp_in_nI (n := (4 * j) + 1) (by omega) (by omega)) dL_law_507 ?_
    refine m_top (y := xs ((4 * j) + 1)) (by rw [nI_clamp (by omega)]) ?_
    refine m_stk (show ([.int (xs ((4 * j) + 1)), .ref (ad 50)] : List Value) = [.int p0, .ref (ad 50)] from by rw [hp0]) ?_
    refine m_callVi (As := [.int p0]) (rest := []) ⟨hx, hb, hml, hown, hts⟩ hE hI (c_X4_setPlay k l ad 57 g _ th uns play rd n lat gar T came mis lost bel fig u ln pg p0 (by omega) hW hmw hcame hM) (cwV 1 hts gL_law_X4_setPlay rfl rfl rfl (by decide +kernel) ⟨Nat.le_of_ble_eq_true rfl, Nat.le_of_ble_eq_true rfl⟩) (i := 50) (by omega) hM.1 rfl rfl hl.1 rfl (Nat.le_of_ble_eq_true rfl) dL_law_508 ⟨by show 57 + j + 1 ≤ 601024; omega, by show 2023 + 6 * j + 6 ≤ 7293034; omega⟩ (fun r9 g4 H locs hp hI => ?_)
    obtain ⟨hp, hk4⟩ := hp
    rcases hp with ⟨hxo0, hr4, hM4⟩ | ⟨hxb0, hM4⟩
    · exact absurd (hxo0.symm.trans hba0) (by decide)
    · refine lv_istore (lv' := [(6, .int r9), (5, .int (nI 1)), (0, .ref b), (1, .ref (ad 0)), (2, .ref (ad 50)), (3, .ref (ad 56)), (4, .int (nI (4 * j)))]) hx hb dL_law_511 hl (by decide) rfl (fun ls hl => ?_)
      refine lv_aload_n hx hb dL_law_513 rfl (lv_at hl 4 rfl) ?_
      refine m_callVi (As := []) (rest := []) ⟨hx, hb, hml, hown, hts⟩ hE hI (c_X4_thrown k l ad 57 g4 _ 1 uns play rd n lat gar T came mis lost bel fig u ln pg (by omega) hW hmw (by omega) hM4) (cwV 0 hts gL_law_X4_thrown rfl rfl rfl (by decide +kernel) ⟨Nat.le_of_ble_eq_true rfl, Nat.le_of_ble_eq_true rfl⟩) (i := 50) (by omega) hM4.1 rfl rfl hl.1 rfl (Nat.le_of_ble_eq_true rfl) dL_law_514 ⟨by show 57 + j + 1 ≤ 601024; omega, by show 2023 + 6 * j + 6 ≤ 7293034; omega⟩ (m_deti (fun H locs hI => ?_))
      refine lv_iload hx hb dL_law_517 (lv_at hl 1 rfl) ?_
      refine m_ceqN (tgt := 524) hx hb (by omega) (by omega) dL_law_519 (by decide) (fun c_519 => ?_) (fun c => absurd c (by decide))
      refine lv_iload hx hb dL_law_524 (lv_at hl 1 rfl) ?_
      refine m_zneN (tgt := 541) hx hb (by omega) dL_law_526 (by decide) (fun c_526 => ?_) (fun c => absurd c (by decide))
      refine lv_goto (tgt := 1350) hx hb dL_law_541 (by decide) ?_
      refine m_cs (c1 := 57 + (j + 1)) (s1 := 2023 + 6 * (j + 1)) (by omega) (by omega) ?_
      exact K d0 g4 H locs ls hd0 ⟨_, _, _, _, _, _, _, _, _, _, _, CR.kept hC (fun i hi => hk4 i (Or.inl hi)), hM4, hY, hW, hwf, hmw, (by show came ≤ 120 * (j + 1); omega), (hk4 56 (by omega)).trans h56⟩ hI (lv_sub hl [2, 3, 4, 5, 6] rfl)
set_option maxHeartbeats 8000000 in
set_option maxRecDepth 100000 in
theorem st_receive {p : Program} {l : Launch} {e : Env} {s : State} {m : MethodId} {below : List Frame} {meth : Method} {c : Code} {b L : Nat} {xs : Nat → Int32} {Q : State → Prop} {k : mC} {A : Nat → Prop} {ad : Nat → Nat} {r : Nat → Option Nat} {j : Nat} (C0 : LC p l s m meth c b L xs k A ad j) {d0 : Drawn} (hd0 : s.drawn.sameBut d0 lw_cs) {g : Nat → va_E} {H : Heap} {locs : List Loc} {ls : Array Slot} (hI : mI k ad 57 g A s H locs) (hl : lv_has ls 9 [(0, .ref b), (1, .ref (ad 0)), (2, .ref (ad 50)), (3, .ref (ad 56)), (4, .int (nI (4 * j)))]) (hLI : LI k ad g r j) (K : LK p l e s m below meth c b Q k A ad r j) : W p l e room_1 (s.setDrawn d0) m #[Value.ref b] below meth c H locs (57 + j) (2023 + 6 * j) Q (F0 m 585 ls []) := by
  obtain ⟨hx, hb, hml, hown, htsL, hst, hX, hbl, hAb, hEd, hL, hj4⟩ := C0
  have hts := dr_words htsL d0
  have hE := hEd d0
  have hX : va_X b L xs (s.setDrawn d0) s.heap := hX
  obtain ⟨uns, play, rd, n, lat, gar, T, ⟨came, mis, lost, bel, fig, fi, u, z, F⟩, ⟨came', mis', lost', bel', fig', u', ln, pg⟩, th, fo, hC, hM, ⟨e1, e2, e3, e4, e5, e6, hR2, hR3⟩, hW, hwf, hmw, hcj, h56⟩ := hLI
  have f1 : came = came' := e1
  have f2 : mis = mis' := e2
  have f3 : lost = lost' := e3
  have f4 : bel = bel' := e4
  have f5 : fig = fig' := e5
  have f6 : u = u' := Eq.symm e6
  clear e1 e2 e3 e4 e5 e6
  subst f1 f2 f3 f4 f5 f6
  have hR : PgR (fi, u, z, F) (u, ln, pg) := ⟨rfl, hR2, hR3⟩
  have hR2 : ∀ l, l < u → z (slt fi l) = ln l := hR2
  have hR3 : ∀ l, l < u → ∀ i, i < ln l → F (slt fi l) i = pg (40 * l + i) := hR3
  have hC : CR k ad g uns play rd n lat gar T (came, mis, lost, bel, fig, fi, u, z, F) r := hC
  have hM : MR k ad g th uns play rd n lat gar T (came, mis, lost, bel, fig, u, ln, pg) := hM
  have hwf : cWf (fi, u, z, F) := hwf
  have hmw : mWf (u, ln, pg) := hmw
  have hcj : came ≤ 120 * j := hcj
  have hcame : came < 2000000000 := by omega
  have hu20 : u ≤ 20 := hmw.2.1
  have hn120 : n ≤ 120 := hW.2.2.1
  have hrdn : rd ≤ n := hW.2.1
  have hpl9 : play ≤ 9 := hW.1
  have hY : YR (came, mis, lost, bel, fig, fi, u, z, F) (came, mis, lost, bel, fig, u, ln, pg) := ⟨rfl, rfl, rfl, rfl, rfl, hR⟩
  refine lv_aload_n hx hb dL_law_585 rfl (lv_at hl 1 rfl) ?_
  refine lv_aload_n hx hb dL_law_586 rfl (lv_at hl 0 rfl) ?_
  refine lv_iload hx hb dL_law_587 (lv_at hl 4 rfl) ?_
  refine lv_iconst (v := nI 1) hx hb dL_law_589 (by decide) ?_
  refine m_iaddN hx hb dL_law_590 ?_
  refine va_sld hx hb hX hbl hAb hI.2 (vp_in_nI (n := (4 * j) + 1) (by omega) (by omega)) dL_law_591 ?_
  refine m_top (y := xs ((4 * j) + 1)) (by rw [nI_clamp (by omega)]) ?_
  refine lv_aload_n hx hb dL_law_592 rfl (lv_at hl 3 rfl) ?_
  obtain ⟨p0, hp0⟩ : ∃ zz, zz = xs ((4 * j) + 1) := ⟨_, rfl⟩
  refine m_stk (show ([.ref (ad 56), .int (xs ((4 * j) + 1)), .ref (ad 0)] : List Value) = [.ref (ad 56), .int p0, .ref (ad 0)] from by rw [hp0]) ?_
  refine m_callSL (As := [.ref (ad 0), .int p0, .ref (ad 56)]) (rest := []) ⟨hx, hb, hml, hown, hts⟩ hE hI (c_L_receive k l hst ad 57 g _ uns play rd n lat gar T came mis lost bel fig fi u z F r p0 fo (by omega) hW hwf hcame hC h56) (vx_cwSW 3 hts gL_law_L_receive rfl rfl rfl (by decide +kernel) ⟨Nat.le_of_ble_eq_true rfl, Nat.le_of_ble_eq_true rfl⟩) rfl hl.1 rfl (Nat.le_of_ble_eq_true rfl) dL_law_593 ⟨by show 57 + j + 1 ≤ 601024; omega, by show 2023 + 6 * j + 6 ≤ 7293034; omega⟩ (fun r9 g9 H locs hp hI => ?_)
  rcases hp with ⟨hr9, hok0, ⟨fo1, h561, hfo1⟩, hC9, hk9⟩ | ⟨hr9, hba0, hgg⟩
  · subst hr9
    have hM9 : MR k ad g9 th uns play rd n lat gar T (came, mis, lost, bel, fig, u, ln, pg) := MR.kept hM (fun i h1 h2 => hk9 i (by omega) (by omega))
    refine lv_istore (lv' := [(5, .int (nI 0)), (0, .ref b), (1, .ref (ad 0)), (2, .ref (ad 50)), (3, .ref (ad 56)), (4, .int (nI (4 * j)))]) hx hb dL_law_596 hl (by decide) rfl (fun ls hl => ?_)
    refine lv_aload_n hx hb dL_law_598 rfl (lv_at hl 3 rfl) ?_
    refine lv_aload_n hx hb dL_law_599 rfl (lv_at hl 1 rfl) ?_
    refine lv_iload hx hb dL_law_600 (lv_at hl 5 rfl) ?_
    refine lv_iconst (v := nI 1) hx hb dL_law_602 (by decide) ?_
    refine m_iaddN hx hb dL_law_603 ?_
    refine va_sld hx hb hX hbl hAb hI.2 (vp_in_nI (n := (4 * j) + 1) (by omega) (by omega)) dL_law_604 ?_
    refine m_top (y := xs ((4 * j) + 1)) (by rw [nI_clamp (by omega)]) ?_
    refine m_stk (show ([.int (xs ((4 * j) + 1)), .ref (ad 50)] : List Value) = [.int p0, .ref (ad 50)] from by rw [hp0]) ?_
    refine m_callVi (As := [.int p0]) (rest := []) ⟨hx, hb, hml, hown, hts⟩ hE hI (c_X4_receive k l ad 57 g9 _ th uns play rd n lat gar T came mis lost bel fig u ln pg p0 (by omega) hW hmw hcame hM9) (cwV 1 hts gL_law_X4_receive rfl rfl rfl (by decide +kernel) ⟨Nat.le_of_ble_eq_true rfl, Nat.le_of_ble_eq_true rfl⟩) (i := 50) (by omega) hM9.1 rfl rfl hl.1 rfl (Nat.le_of_ble_eq_true rfl) dL_law_605 ⟨by show 57 + j + 1 ≤ 601024; omega, by show 2023 + 6 * j + 6 ≤ 7293034; omega⟩ (fun r9 g4 H locs hp hI => ?_)
    obtain ⟨hp, hk4⟩ := hp
    rcases hp with ⟨hxo0, hr4, hM4⟩ | ⟨hxb0, hM4⟩
    · subst hr4
      have hC4 : CR k ad g4 uns play rd n lat gar T (yIn cNl cFull cAdd uns play lat gar (tn p0) (came, mis, lost, bel, fig, fi, u, z, F)) r := CR.kept hC9 (fun i hi => hk4 i (Or.inl hi))
      have h564 : g4 56 = .inl (k.2.1.2.2, 1, .inr (.inl fo1)) := (hk4 56 (by omega)).trans h561
      have ht0 : tn p0 < 32 := inN_tn hok0 (by omega)
      have hW4 : CW play rd n lat gar T := hW
      have hY4 := YR_in uns play lat gar (tn p0) (y := (came, mis, lost, bel, fig, fi, u, z, F)) (v := (came, mis, lost, bel, fig, u, ln, pg)) hwf hmw hY
      have hwf4 := cWf_in (uns := uns) (play := play) (lat := lat) (gar := gar) (co := tn p0) (y := (came, mis, lost, bel, fig, fi, u, z, F)) hwf
      have hmw4 := mWf_in (uns := uns) (play := play) (lat := lat) (gar := gar) (co := tn p0) (y := (came, mis, lost, bel, fig, u, ln, pg)) hmw
      have hca4 : (yIn mNl mFull mAdd uns play lat gar (tn p0) (came, mis, lost, bel, fig, u, ln, pg)).1 = came + 1 := rfl
      obtain ⟨v4, hv4⟩ : ∃ zz : YT PM, zz = yIn mNl mFull mAdd uns play lat gar (tn p0) (came, mis, lost, bel, fig, u, ln, pg) := ⟨_, rfl⟩
      rw [← hv4] at hM4 hY4 hmw4 hca4
      obtain ⟨ca4, mi4, lo4, be4, fg4, u4, ln4, pg4⟩ := v4
      have hca4 : ca4 = came + 1 := hca4
      have hca5 := hY4.1
      refine lv_istore (lv' := [(6, .int (nI (rdY play lat gar came (tn p0)))), (5, .int (nI 0)), (0, .ref b), (1, .ref (ad 0)), (2, .ref (ad 50)), (3, .ref (ad 56)), (4, .int (nI (4 * j)))]) hx hb dL_law_608 hl (by decide) rfl (fun ls hl => ?_)
      refine lv_aload_n hx hb dL_law_610 rfl (lv_at hl 4 rfl) ?_
      refine m_callVi (As := []) (rest := []) ⟨hx, hb, hml, hown, hts⟩ hE hI (c_X4_thrown k l ad 57 g4 _ 0 uns play rd n lat gar T ca4 mi4 lo4 be4 fg4 u4 ln4 pg4 (by omega) hW4 hmw4 (by omega) hM4) (cwV 0 hts gL_law_X4_thrown rfl rfl rfl (by decide +kernel) ⟨Nat.le_of_ble_eq_true rfl, Nat.le_of_ble_eq_true rfl⟩) (i := 50) (by omega) hM4.1 rfl rfl hl.1 rfl (Nat.le_of_ble_eq_true rfl) dL_law_611 ⟨by show 57 + j + 1 ≤ 601024; omega, by show 2023 + 6 * j + 6 ≤ 7293034; omega⟩ (m_deti (fun H locs hI => ?_))
      refine lv_iload hx hb dL_law_614 (lv_at hl 1 rfl) ?_
      refine m_ceqN (tgt := 621) hx hb (by omega) (by omega) dL_law_616 (by decide) (fun c_616 => ?_) (fun c => absurd c (by decide))
      refine lv_iload hx hb dL_law_621 (lv_at hl 1 rfl) ?_
      refine m_zneN (tgt := 638) hx hb (by omega) dL_law_623 (by decide) (fun c => absurd c (by decide)) (fun c_623 => ?_)
      refine lv_aload_n hx hb dL_law_626 rfl (lv_at hl 5 rfl) ?_
      refine lv_iconst (v := nI 0) hx hb dL_law_627 (by decide) ?_
      refine m_lald hx hb hE hI 56 (by omega) (j := 0) h564 (by omega) (by omega) dL_law_628 ?_
      refine lv_iload hx hb dL_law_629 (lv_at hl 0 rfl) ?_
      refine lv_i2l (v := (nI (rdY play lat gar came (tn p0))).toInt64) hx hb dL_law_631 rfl ?_
      refine W.lcmp hx hb dL_law_632 ?_
      refine m_top (y := nI 0) (show lg_cmp (fo1 0) ((nI (rdY play lat gar came (tn p0))).toInt64) = nI 0 from by rw [nI_0]; refine (lg_cmp_eq _ _).mpr ?_; rw [hfo1]) ?_
      refine m_zeqN (tgt := 638) hx hb (by omega) dL_law_633 (by decide) (fun c_633 => ?_) (fun c => absurd c (by decide))
      refine lv_goto (tgt := 1350) hx hb dL_law_638 (by decide) ?_
      refine m_cs (c1 := 57 + (j + 1)) (s1 := 2023 + 6 * (j + 1)) (by omega) (by omega) ?_
      exact K d0 g4 H locs ls hd0 ⟨_, _, _, _, _, _, _, _, _, _, _, hC4, hM4, hY4, hW4, hwf4, hmw4, (by rw [hca5]; show ca4 ≤ 120 * (j + 1); omega), h564⟩ hI (lv_sub hl [2, 3, 4, 5, 6] rfl)
    · exact absurd (hok0.symm.trans hxb0) (by decide)
  · subst hr9
    rw [hgg] at hI
    refine lv_istore (lv' := [(5, .int (nI 1)), (0, .ref b), (1, .ref (ad 0)), (2, .ref (ad 50)), (3, .ref (ad 56)), (4, .int (nI (4 * j)))]) hx hb dL_law_596 hl (by decide) rfl (fun ls hl => ?_)
    refine lv_aload_n hx hb dL_law_598 rfl (lv_at hl 3 rfl) ?_
    refine lv_aload_n hx hb dL_law_599 rfl (lv_at hl 1 rfl) ?_
    refine lv_iload hx hb dL_law_600 (lv_at hl 5 rfl) ?_
    refine lv_iconst (v := nI 1) hx hb dL_law_602 (by decide) ?_
    refine m_iaddN hx hb dL_law_603 ?_
    refine va_sld hx hb hX hbl hAb hI.2 (vp_in_nI (n := (4 * j) + 1) (by omega) (by omega)) dL_law_604 ?_
    refine m_top (y := xs ((4 * j) + 1)) (by rw [nI_clamp (by omega)]) ?_
    refine m_stk (show ([.int (xs ((4 * j) + 1)), .ref (ad 50)] : List Value) = [.int p0, .ref (ad 50)] from by rw [hp0]) ?_
    refine m_callVi (As := [.int p0]) (rest := []) ⟨hx, hb, hml, hown, hts⟩ hE hI (c_X4_receive k l ad 57 g _ th uns play rd n lat gar T came mis lost bel fig u ln pg p0 (by omega) hW hmw hcame hM) (cwV 1 hts gL_law_X4_receive rfl rfl rfl (by decide +kernel) ⟨Nat.le_of_ble_eq_true rfl, Nat.le_of_ble_eq_true rfl⟩) (i := 50) (by omega) hM.1 rfl rfl hl.1 rfl (Nat.le_of_ble_eq_true rfl) dL_law_605 ⟨by show 57 + j + 1 ≤ 601024; omega, by show 2023 + 6 * j + 6 ≤ 7293034; omega⟩ (fun r9 g4 H locs hp hI => ?_)
    obtain ⟨hp, hk4⟩ := hp
    rcases hp with ⟨hxo0, hr4, hM4⟩ | ⟨hxb0, hM4⟩
    · exact absurd (hxo0.symm.trans hba0) (by decide)
    · refine lv_istore (lv' := [(6, .int r9), (5, .int (nI 1)), (0, .ref b), (1, .ref (ad 0)), (2, .ref (ad 50)), (3, .ref (ad 56)), (4, .int (nI (4 * j)))]) hx hb dL_law_608 hl (by decide) rfl (fun ls hl => ?_)
      refine lv_aload_n hx hb dL_law_610 rfl (lv_at hl 4 rfl) ?_
      refine m_callVi (As := []) (rest := []) ⟨hx, hb, hml, hown, hts⟩ hE hI (c_X4_thrown k l ad 57 g4 _ 1 uns play rd n lat gar T came mis lost bel fig u ln pg (by omega) hW hmw (by omega) hM4) (cwV 0 hts gL_law_X4_thrown rfl rfl rfl (by decide +kernel) ⟨Nat.le_of_ble_eq_true rfl, Nat.le_of_ble_eq_true rfl⟩) (i := 50) (by omega) hM4.1 rfl rfl hl.1 rfl (Nat.le_of_ble_eq_true rfl) dL_law_611 ⟨by show 57 + j + 1 ≤ 601024; omega, by show 2023 + 6 * j + 6 ≤ 7293034; omega⟩ (m_deti (fun H locs hI => ?_))
      refine lv_iload hx hb dL_law_614 (lv_at hl 1 rfl) ?_
      refine m_ceqN (tgt := 621) hx hb (by omega) (by omega) dL_law_616 (by decide) (fun c_616 => ?_) (fun c => absurd c (by decide))
      refine lv_iload hx hb dL_law_621 (lv_at hl 1 rfl) ?_
      refine m_zneN (tgt := 638) hx hb (by omega) dL_law_623 (by decide) (fun c_623 => ?_) (fun c => absurd c (by decide))
      refine lv_goto (tgt := 1350) hx hb dL_law_638 (by decide) ?_
      refine m_cs (c1 := 57 + (j + 1)) (s1 := 2023 + 6 * (j + 1)) (by omega) (by omega) ?_
      exact K d0 g4 H locs ls hd0 ⟨_, _, _, _, _, _, _, _, _, _, _, CR.kept hC (fun i hi => hk4 i (Or.inl hi)), hM4, hY, hW, hwf, hmw, (by show came ≤ 120 * (j + 1); omega), (hk4 56 (by omega)).trans h56⟩ hI (lv_sub hl [2, 3, 4, 5, 6] rfl)
set_option maxHeartbeats 8000000 in
set_option maxRecDepth 100000 in
theorem st_punch {p : Program} {l : Launch} {e : Env} {s : State} {m : MethodId} {below : List Frame} {meth : Method} {c : Code} {b L : Nat} {xs : Nat → Int32} {Q : State → Prop} {k : mC} {A : Nat → Prop} {ad : Nat → Nat} {r : Nat → Option Nat} {j : Nat} (C0 : LC p l s m meth c b L xs k A ad j) {d0 : Drawn} (hd0 : s.drawn.sameBut d0 lw_cs) {g : Nat → va_E} {H : Heap} {locs : List Loc} {ls : Array Slot} (hI : mI k ad 57 g A s H locs) (hl : lv_has ls 9 [(0, .ref b), (1, .ref (ad 0)), (2, .ref (ad 50)), (3, .ref (ad 56)), (4, .int (nI (4 * j)))]) (hLI : LI k ad g r j) (K : LK p l e s m below meth c b Q k A ad r j) : W p l e room_1 (s.setDrawn d0) m #[Value.ref b] below meth c H locs (57 + j) (2023 + 6 * j) Q (F0 m 641 ls []) := by
  obtain ⟨hx, hb, hml, hown, htsL, hst, hX, hbl, hAb, hEd, hL, hj4⟩ := C0
  have hts := dr_words htsL d0
  have hE := hEd d0
  have hX : va_X b L xs (s.setDrawn d0) s.heap := hX
  obtain ⟨uns, play, rd, n, lat, gar, T, ⟨came, mis, lost, bel, fig, fi, u, z, F⟩, ⟨came', mis', lost', bel', fig', u', ln, pg⟩, th, fo, hC, hM, ⟨e1, e2, e3, e4, e5, e6, hR2, hR3⟩, hW, hwf, hmw, hcj, h56⟩ := hLI
  have f1 : came = came' := e1
  have f2 : mis = mis' := e2
  have f3 : lost = lost' := e3
  have f4 : bel = bel' := e4
  have f5 : fig = fig' := e5
  have f6 : u = u' := Eq.symm e6
  clear e1 e2 e3 e4 e5 e6
  subst f1 f2 f3 f4 f5 f6
  have hR : PgR (fi, u, z, F) (u, ln, pg) := ⟨rfl, hR2, hR3⟩
  have hR2 : ∀ l, l < u → z (slt fi l) = ln l := hR2
  have hR3 : ∀ l, l < u → ∀ i, i < ln l → F (slt fi l) i = pg (40 * l + i) := hR3
  have hC : CR k ad g uns play rd n lat gar T (came, mis, lost, bel, fig, fi, u, z, F) r := hC
  have hM : MR k ad g th uns play rd n lat gar T (came, mis, lost, bel, fig, u, ln, pg) := hM
  have hwf : cWf (fi, u, z, F) := hwf
  have hmw : mWf (u, ln, pg) := hmw
  have hcj : came ≤ 120 * j := hcj
  have hcame : came < 2000000000 := by omega
  have hu20 : u ≤ 20 := hmw.2.1
  have hn120 : n ≤ 120 := hW.2.2.1
  have hrdn : rd ≤ n := hW.2.1
  have hpl9 : play ≤ 9 := hW.1
  have hY : YR (came, mis, lost, bel, fig, fi, u, z, F) (came, mis, lost, bel, fig, u, ln, pg) := ⟨rfl, rfl, rfl, rfl, rfl, hR⟩
  refine lv_aload_n hx hb dL_law_641 rfl (lv_at hl 1 rfl) ?_
  refine lv_aload_n hx hb dL_law_642 rfl (lv_at hl 0 rfl) ?_
  refine lv_iload hx hb dL_law_643 (lv_at hl 4 rfl) ?_
  refine lv_iconst (v := nI 1) hx hb dL_law_645 (by decide) ?_
  refine m_iaddN hx hb dL_law_646 ?_
  refine va_sld hx hb hX hbl hAb hI.2 (vp_in_nI (n := (4 * j) + 1) (by omega) (by omega)) dL_law_647 ?_
  refine m_top (y := xs ((4 * j) + 1)) (by rw [nI_clamp (by omega)]) ?_
  refine lv_aload_n hx hb dL_law_648 rfl (lv_at hl 3 rfl) ?_
  obtain ⟨p0, hp0⟩ : ∃ zz, zz = xs ((4 * j) + 1) := ⟨_, rfl⟩
  refine m_stk (show ([.ref (ad 56), .int (xs ((4 * j) + 1)), .ref (ad 0)] : List Value) = [.ref (ad 56), .int p0, .ref (ad 0)] from by rw [hp0]) ?_
  refine m_callSL (As := [.ref (ad 0), .int p0, .ref (ad 56)]) (rest := []) ⟨hx, hb, hml, hown, hts⟩ hE hI (c_L_punch k l hst ad 57 g _ uns play rd n lat gar T came mis lost bel fig fi u z F r p0 fo (by omega) hW hwf hcame hC h56) (vx_cwSW 3 hts gL_law_L_punch rfl rfl rfl (by decide +kernel) ⟨Nat.le_of_ble_eq_true rfl, Nat.le_of_ble_eq_true rfl⟩) rfl hl.1 rfl (Nat.le_of_ble_eq_true rfl) dL_law_649 ⟨by show 57 + j + 1 ≤ 601024; omega, by show 2023 + 6 * j + 6 ≤ 7293034; omega⟩ (fun r9 g9 H locs hp hI => ?_)
  rcases hp with ⟨hr9, hok0, hok1, ⟨fo1, h561, hfo1⟩, hC9, hk9⟩ | ⟨hr9, hba0, hgg⟩ | ⟨hr9, hba0, hba1, hgg⟩
  · subst hr9
    have hM9 : MR k ad g9 th uns play rd n lat gar T (came, mis, lost, bel, fig, u, ln, pg) := MR.kept hM (fun i h1 h2 => hk9 i (by omega) (by omega))
    refine lv_istore (lv' := [(5, .int (nI 0)), (0, .ref b), (1, .ref (ad 0)), (2, .ref (ad 50)), (3, .ref (ad 56)), (4, .int (nI (4 * j)))]) hx hb dL_law_652 hl (by decide) rfl (fun ls hl => ?_)
    refine lv_aload_n hx hb dL_law_654 rfl (lv_at hl 3 rfl) ?_
    refine lv_aload_n hx hb dL_law_655 rfl (lv_at hl 1 rfl) ?_
    refine lv_iload hx hb dL_law_656 (lv_at hl 5 rfl) ?_
    refine lv_iconst (v := nI 1) hx hb dL_law_658 (by decide) ?_
    refine m_iaddN hx hb dL_law_659 ?_
    refine va_sld hx hb hX hbl hAb hI.2 (vp_in_nI (n := (4 * j) + 1) (by omega) (by omega)) dL_law_660 ?_
    refine m_top (y := xs ((4 * j) + 1)) (by rw [nI_clamp (by omega)]) ?_
    refine m_stk (show ([.int (xs ((4 * j) + 1)), .ref (ad 50)] : List Value) = [.int p0, .ref (ad 50)] from by rw [hp0]) ?_
    refine m_callVi (As := [.int p0]) (rest := []) ⟨hx, hb, hml, hown, hts⟩ hE hI (c_X4_punch k l ad 57 g9 _ th uns play rd n lat gar T came mis lost bel fig u ln pg p0 (by omega) hW hmw hcame hM9) (cwV 1 hts gL_law_X4_punch rfl rfl rfl (by decide +kernel) ⟨Nat.le_of_ble_eq_true rfl, Nat.le_of_ble_eq_true rfl⟩) (i := 50) (by omega) hM9.1 rfl rfl hl.1 rfl (Nat.le_of_ble_eq_true rfl) dL_law_661 ⟨by show 57 + j + 1 ≤ 601024; omega, by show 2023 + 6 * j + 6 ≤ 7293034; omega⟩ (fun r9 g4 H locs hp hI => ?_)
    obtain ⟨hp, hk4⟩ := hp
    rcases hp with ⟨⟨hxo0, hxo1⟩, hr4, hM4⟩ | ⟨hxb0, hM4⟩ | ⟨⟨hxb0, hxb1⟩, hM4⟩
    · subst hr4
      have hC4 : CR k ad g4 uns play rd (n + 1) lat gar (va_up T n (tn p0)) (came, mis, lost, bel, fig, fi, u, z, F) r := CR.kept hC9 (fun i hi => hk4 i (Or.inl hi))
      have h564 : g4 56 = .inl (k.2.1.2.2, 1, .inr (.inl fo1)) := (hk4 56 (by omega)).trans h561
      have ht0 : tn p0 < 32 := inN_tn hok0 (by omega)
      have hW4 : CW play rd (n + 1) lat gar (va_up T n (tn p0)) := CW.punch hW hok1 ht0
      refine lv_istore (lv' := [(6, .int (nI (n + 1))), (5, .int (nI 0)), (0, .ref b), (1, .ref (ad 0)), (2, .ref (ad 50)), (3, .ref (ad 56)), (4, .int (nI (4 * j)))]) hx hb dL_law_664 hl (by decide) rfl (fun ls hl => ?_)
      refine lv_aload_n hx hb dL_law_666 rfl (lv_at hl 4 rfl) ?_
      refine m_callVi (As := []) (rest := []) ⟨hx, hb, hml, hown, hts⟩ hE hI (c_X4_thrown k l ad 57 g4 _ 0 uns play rd (n + 1) lat gar (va_up T n (tn p0)) came mis lost bel fig u ln pg (by omega) hW4 hmw (by omega) hM4) (cwV 0 hts gL_law_X4_thrown rfl rfl rfl (by decide +kernel) ⟨Nat.le_of_ble_eq_true rfl, Nat.le_of_ble_eq_true rfl⟩) (i := 50) (by omega) hM4.1 rfl rfl hl.1 rfl (Nat.le_of_ble_eq_true rfl) dL_law_667 ⟨by show 57 + j + 1 ≤ 601024; omega, by show 2023 + 6 * j + 6 ≤ 7293034; omega⟩ (m_deti (fun H locs hI => ?_))
      refine lv_iload hx hb dL_law_670 (lv_at hl 1 rfl) ?_
      refine m_ceqN (tgt := 677) hx hb (by omega) (by omega) dL_law_672 (by decide) (fun c_672 => ?_) (fun c => absurd c (by decide))
      refine lv_iload hx hb dL_law_677 (lv_at hl 1 rfl) ?_
      refine m_zneN (tgt := 694) hx hb (by omega) dL_law_679 (by decide) (fun c => absurd c (by decide)) (fun c_679 => ?_)
      refine lv_aload_n hx hb dL_law_682 rfl (lv_at hl 5 rfl) ?_
      refine lv_iconst (v := nI 0) hx hb dL_law_683 (by decide) ?_
      refine m_lald hx hb hE hI 56 (by omega) (j := 0) h564 (by omega) (by omega) dL_law_684 ?_
      refine lv_iload hx hb dL_law_685 (lv_at hl 0 rfl) ?_
      refine lv_i2l (v := (nI (n + 1)).toInt64) hx hb dL_law_687 rfl ?_
      refine W.lcmp hx hb dL_law_688 ?_
      refine m_top (y := nI 0) (show lg_cmp (fo1 0) ((nI (n + 1)).toInt64) = nI 0 from by rw [nI_0]; refine (lg_cmp_eq _ _).mpr ?_; rw [hfo1]) ?_
      refine m_zeqN (tgt := 694) hx hb (by omega) dL_law_689 (by decide) (fun c_689 => ?_) (fun c => absurd c (by decide))
      refine lv_goto (tgt := 1350) hx hb dL_law_694 (by decide) ?_
      refine m_cs (c1 := 57 + (j + 1)) (s1 := 2023 + 6 * (j + 1)) (by omega) (by omega) ?_
      exact K d0 g4 H locs ls hd0 ⟨_, _, _, _, _, _, _, _, _, _, _, hC4, hM4, hY, hW4, hwf, hmw, (by show came ≤ 120 * (j + 1); omega), h564⟩ hI (lv_sub hl [2, 3, 4, 5, 6] rfl)
    · exact absurd (hok0.symm.trans hxb0) (by decide)
    · exfalso; omega
  · subst hr9
    rw [hgg] at hI
    refine lv_istore (lv' := [(5, .int (nI 1)), (0, .ref b), (1, .ref (ad 0)), (2, .ref (ad 50)), (3, .ref (ad 56)), (4, .int (nI (4 * j)))]) hx hb dL_law_652 hl (by decide) rfl (fun ls hl => ?_)
    refine lv_aload_n hx hb dL_law_654 rfl (lv_at hl 3 rfl) ?_
    refine lv_aload_n hx hb dL_law_655 rfl (lv_at hl 1 rfl) ?_
    refine lv_iload hx hb dL_law_656 (lv_at hl 5 rfl) ?_
    refine lv_iconst (v := nI 1) hx hb dL_law_658 (by decide) ?_
    refine m_iaddN hx hb dL_law_659 ?_
    refine va_sld hx hb hX hbl hAb hI.2 (vp_in_nI (n := (4 * j) + 1) (by omega) (by omega)) dL_law_660 ?_
    refine m_top (y := xs ((4 * j) + 1)) (by rw [nI_clamp (by omega)]) ?_
    refine m_stk (show ([.int (xs ((4 * j) + 1)), .ref (ad 50)] : List Value) = [.int p0, .ref (ad 50)] from by rw [hp0]) ?_
    refine m_callVi (As := [.int p0]) (rest := []) ⟨hx, hb, hml, hown, hts⟩ hE hI (c_X4_punch k l ad 57 g _ th uns play rd n lat gar T came mis lost bel fig u ln pg p0 (by omega) hW hmw hcame hM) (cwV 1 hts gL_law_X4_punch rfl rfl rfl (by decide +kernel) ⟨Nat.le_of_ble_eq_true rfl, Nat.le_of_ble_eq_true rfl⟩) (i := 50) (by omega) hM.1 rfl rfl hl.1 rfl (Nat.le_of_ble_eq_true rfl) dL_law_661 ⟨by show 57 + j + 1 ≤ 601024; omega, by show 2023 + 6 * j + 6 ≤ 7293034; omega⟩ (fun r9 g4 H locs hp hI => ?_)
    obtain ⟨hp, hk4⟩ := hp
    rcases hp with ⟨⟨hxo0, hxo1⟩, hr4, hM4⟩ | ⟨hxb0, hM4⟩ | ⟨⟨hxb0, hxb1⟩, hM4⟩
    · exact absurd (hxo0.symm.trans hba0) (by decide)
    · refine lv_istore (lv' := [(6, .int r9), (5, .int (nI 1)), (0, .ref b), (1, .ref (ad 0)), (2, .ref (ad 50)), (3, .ref (ad 56)), (4, .int (nI (4 * j)))]) hx hb dL_law_664 hl (by decide) rfl (fun ls hl => ?_)
      refine lv_aload_n hx hb dL_law_666 rfl (lv_at hl 4 rfl) ?_
      refine m_callVi (As := []) (rest := []) ⟨hx, hb, hml, hown, hts⟩ hE hI (c_X4_thrown k l ad 57 g4 _ 1 uns play rd n lat gar T came mis lost bel fig u ln pg (by omega) hW hmw (by omega) hM4) (cwV 0 hts gL_law_X4_thrown rfl rfl rfl (by decide +kernel) ⟨Nat.le_of_ble_eq_true rfl, Nat.le_of_ble_eq_true rfl⟩) (i := 50) (by omega) hM4.1 rfl rfl hl.1 rfl (Nat.le_of_ble_eq_true rfl) dL_law_667 ⟨by show 57 + j + 1 ≤ 601024; omega, by show 2023 + 6 * j + 6 ≤ 7293034; omega⟩ (m_deti (fun H locs hI => ?_))
      refine lv_iload hx hb dL_law_670 (lv_at hl 1 rfl) ?_
      refine m_ceqN (tgt := 677) hx hb (by omega) (by omega) dL_law_672 (by decide) (fun c_672 => ?_) (fun c => absurd c (by decide))
      refine lv_iload hx hb dL_law_677 (lv_at hl 1 rfl) ?_
      refine m_zneN (tgt := 694) hx hb (by omega) dL_law_679 (by decide) (fun c_679 => ?_) (fun c => absurd c (by decide))
      refine lv_goto (tgt := 1350) hx hb dL_law_694 (by decide) ?_
      refine m_cs (c1 := 57 + (j + 1)) (s1 := 2023 + 6 * (j + 1)) (by omega) (by omega) ?_
      exact K d0 g4 H locs ls hd0 ⟨_, _, _, _, _, _, _, _, _, _, _, CR.kept hC (fun i hi => hk4 i (Or.inl hi)), hM4, hY, hW, hwf, hmw, (by show came ≤ 120 * (j + 1); omega), (hk4 56 (by omega)).trans h56⟩ hI (lv_sub hl [2, 3, 4, 5, 6] rfl)
    · exact absurd (hxb0.symm.trans hba0) (by decide)
  · subst hr9
    rw [hgg] at hI
    refine lv_istore (lv' := [(5, .int (nI 2)), (0, .ref b), (1, .ref (ad 0)), (2, .ref (ad 50)), (3, .ref (ad 56)), (4, .int (nI (4 * j)))]) hx hb dL_law_652 hl (by decide) rfl (fun ls hl => ?_)
    refine lv_aload_n hx hb dL_law_654 rfl (lv_at hl 3 rfl) ?_
    refine lv_aload_n hx hb dL_law_655 rfl (lv_at hl 1 rfl) ?_
    refine lv_iload hx hb dL_law_656 (lv_at hl 5 rfl) ?_
    refine lv_iconst (v := nI 1) hx hb dL_law_658 (by decide) ?_
    refine m_iaddN hx hb dL_law_659 ?_
    refine va_sld hx hb hX hbl hAb hI.2 (vp_in_nI (n := (4 * j) + 1) (by omega) (by omega)) dL_law_660 ?_
    refine m_top (y := xs ((4 * j) + 1)) (by rw [nI_clamp (by omega)]) ?_
    refine m_stk (show ([.int (xs ((4 * j) + 1)), .ref (ad 50)] : List Value) = [.int p0, .ref (ad 50)] from by rw [hp0]) ?_
    refine m_callVi (As := [.int p0]) (rest := []) ⟨hx, hb, hml, hown, hts⟩ hE hI (c_X4_punch k l ad 57 g _ th uns play rd n lat gar T came mis lost bel fig u ln pg p0 (by omega) hW hmw hcame hM) (cwV 1 hts gL_law_X4_punch rfl rfl rfl (by decide +kernel) ⟨Nat.le_of_ble_eq_true rfl, Nat.le_of_ble_eq_true rfl⟩) (i := 50) (by omega) hM.1 rfl rfl hl.1 rfl (Nat.le_of_ble_eq_true rfl) dL_law_661 ⟨by show 57 + j + 1 ≤ 601024; omega, by show 2023 + 6 * j + 6 ≤ 7293034; omega⟩ (fun r9 g4 H locs hp hI => ?_)
    obtain ⟨hp, hk4⟩ := hp
    rcases hp with ⟨⟨hxo0, hxo1⟩, hr4, hM4⟩ | ⟨hxb0, hM4⟩ | ⟨⟨hxb0, hxb1⟩, hM4⟩
    · exfalso; omega
    · exact absurd (hba0.symm.trans hxb0) (by decide)
    · refine lv_istore (lv' := [(6, .int r9), (5, .int (nI 2)), (0, .ref b), (1, .ref (ad 0)), (2, .ref (ad 50)), (3, .ref (ad 56)), (4, .int (nI (4 * j)))]) hx hb dL_law_664 hl (by decide) rfl (fun ls hl => ?_)
      refine lv_aload_n hx hb dL_law_666 rfl (lv_at hl 4 rfl) ?_
      refine m_callVi (As := []) (rest := []) ⟨hx, hb, hml, hown, hts⟩ hE hI (c_X4_thrown k l ad 57 g4 _ 2 uns play rd n lat gar T came mis lost bel fig u ln pg (by omega) hW hmw (by omega) hM4) (cwV 0 hts gL_law_X4_thrown rfl rfl rfl (by decide +kernel) ⟨Nat.le_of_ble_eq_true rfl, Nat.le_of_ble_eq_true rfl⟩) (i := 50) (by omega) hM4.1 rfl rfl hl.1 rfl (Nat.le_of_ble_eq_true rfl) dL_law_667 ⟨by show 57 + j + 1 ≤ 601024; omega, by show 2023 + 6 * j + 6 ≤ 7293034; omega⟩ (m_deti (fun H locs hI => ?_))
      refine lv_iload hx hb dL_law_670 (lv_at hl 1 rfl) ?_
      refine m_ceqN (tgt := 677) hx hb (by omega) (by omega) dL_law_672 (by decide) (fun c_672 => ?_) (fun c => absurd c (by decide))
      refine lv_iload hx hb dL_law_677 (lv_at hl 1 rfl) ?_
      refine m_zneN (tgt := 694) hx hb (by omega) dL_law_679 (by decide) (fun c_679 => ?_) (fun c => absurd c (by decide))
      refine lv_goto (tgt := 1350) hx hb dL_law_694 (by decide) ?_
      refine m_cs (c1 := 57 + (j + 1)) (s1 := 2023 + 6 * (j + 1)) (by omega) (by omega) ?_
      exact K d0 g4 H locs ls hd0 ⟨_, _, _, _, _, _, _, _, _, _, _, CR.kept hC (fun i hi => hk4 i (Or.inl hi)), hM4, hY, hW, hwf, hmw, (by show came ≤ 120 * (j + 1); omega), (hk4 56 (by omega)).trans h56⟩ hI (lv_sub hl [2, 3, 4, 5, 6] rfl)
set_option maxHeartbeats 8000000 in
set_option maxRecDepth 100000 in
theorem st_type {p : Program} {l : Launch} {e : Env} {s : State} {m : MethodId} {below : List Frame} {meth : Method} {c : Code} {b L : Nat} {xs : Nat → Int32} {Q : State → Prop} {k : mC} {A : Nat → Prop} {ad : Nat → Nat} {r : Nat → Option Nat} {j : Nat} (C0 : LC p l s m meth c b L xs k A ad j) {d0 : Drawn} (hd0 : s.drawn.sameBut d0 lw_cs) {g : Nat → va_E} {H : Heap} {locs : List Loc} {ls : Array Slot} (hI : mI k ad 57 g A s H locs) (hl : lv_has ls 9 [(0, .ref b), (1, .ref (ad 0)), (2, .ref (ad 50)), (3, .ref (ad 56)), (4, .int (nI (4 * j)))]) (hLI : LI k ad g r j) (K : LK p l e s m below meth c b Q k A ad r j) : W p l e room_1 (s.setDrawn d0) m #[Value.ref b] below meth c H locs (57 + j) (2023 + 6 * j) Q (F0 m 697 ls []) := by
  obtain ⟨hx, hb, hml, hown, htsL, hst, hX, hbl, hAb, hEd, hL, hj4⟩ := C0
  have hts := dr_words htsL d0
  have hE := hEd d0
  have hX : va_X b L xs (s.setDrawn d0) s.heap := hX
  obtain ⟨uns, play, rd, n, lat, gar, T, ⟨came, mis, lost, bel, fig, fi, u, z, F⟩, ⟨came', mis', lost', bel', fig', u', ln, pg⟩, th, fo, hC, hM, ⟨e1, e2, e3, e4, e5, e6, hR2, hR3⟩, hW, hwf, hmw, hcj, h56⟩ := hLI
  have f1 : came = came' := e1
  have f2 : mis = mis' := e2
  have f3 : lost = lost' := e3
  have f4 : bel = bel' := e4
  have f5 : fig = fig' := e5
  have f6 : u = u' := Eq.symm e6
  clear e1 e2 e3 e4 e5 e6
  subst f1 f2 f3 f4 f5 f6
  have hR : PgR (fi, u, z, F) (u, ln, pg) := ⟨rfl, hR2, hR3⟩
  have hR2 : ∀ l, l < u → z (slt fi l) = ln l := hR2
  have hR3 : ∀ l, l < u → ∀ i, i < ln l → F (slt fi l) i = pg (40 * l + i) := hR3
  have hC : CR k ad g uns play rd n lat gar T (came, mis, lost, bel, fig, fi, u, z, F) r := hC
  have hM : MR k ad g th uns play rd n lat gar T (came, mis, lost, bel, fig, u, ln, pg) := hM
  have hwf : cWf (fi, u, z, F) := hwf
  have hmw : mWf (u, ln, pg) := hmw
  have hcj : came ≤ 120 * j := hcj
  have hcame : came < 2000000000 := by omega
  have hu20 : u ≤ 20 := hmw.2.1
  have hn120 : n ≤ 120 := hW.2.2.1
  have hrdn : rd ≤ n := hW.2.1
  have hpl9 : play ≤ 9 := hW.1
  have hY : YR (came, mis, lost, bel, fig, fi, u, z, F) (came, mis, lost, bel, fig, u, ln, pg) := ⟨rfl, rfl, rfl, rfl, rfl, hR⟩
  refine lv_aload_n hx hb dL_law_697 rfl (lv_at hl 1 rfl) ?_
  refine lv_aload_n hx hb dL_law_698 rfl (lv_at hl 0 rfl) ?_
  refine lv_iload hx hb dL_law_699 (lv_at hl 4 rfl) ?_
  refine lv_iconst (v := nI 1) hx hb dL_law_701 (by decide) ?_
  refine m_iaddN hx hb dL_law_702 ?_
  refine va_sld hx hb hX hbl hAb hI.2 (vp_in_nI (n := (4 * j) + 1) (by omega) (by omega)) dL_law_703 ?_
  refine m_top (y := xs ((4 * j) + 1)) (by rw [nI_clamp (by omega)]) ?_
  refine lv_aload_n hx hb dL_law_704 rfl (lv_at hl 3 rfl) ?_
  obtain ⟨p0, hp0⟩ : ∃ zz, zz = xs ((4 * j) + 1) := ⟨_, rfl⟩
  refine m_stk (show ([.ref (ad 56), .int (xs ((4 * j) + 1)), .ref (ad 0)] : List Value) = [.ref (ad 56), .int p0, .ref (ad 0)] from by rw [hp0]) ?_
  refine m_callSL (As := [.ref (ad 0), .int p0, .ref (ad 56)]) (rest := []) ⟨hx, hb, hml, hown, hts⟩ hE hI (c_L_type k l hst ad 57 g _ uns play rd n lat gar T came mis lost bel fig fi u z F r p0 fo (by omega) hW hwf hcame hC h56) (vx_cwSW 3 hts gL_law_L_type rfl rfl rfl (by decide +kernel) ⟨Nat.le_of_ble_eq_true rfl, Nat.le_of_ble_eq_true rfl⟩) rfl hl.1 rfl (Nat.le_of_ble_eq_true rfl) dL_law_705 ⟨by show 57 + j + 1 ≤ 601024; omega, by show 2023 + 6 * j + 6 ≤ 7293034; omega⟩ (fun r9 g9 H locs hp hI => ?_)
  rcases hp with ⟨hr9, hok0, hok1, ⟨fo1, h561, hfo1⟩, hC9, hk9⟩ | ⟨hr9, hba0, hgg⟩ | ⟨hr9, hba0, hba1, hgg⟩
  · subst hr9
    have hM9 : MR k ad g9 th uns play rd n lat gar T (came, mis, lost, bel, fig, u, ln, pg) := MR.kept hM (fun i h1 h2 => hk9 i (by omega) (by omega))
    refine lv_istore (lv' := [(5, .int (nI 0)), (0, .ref b), (1, .ref (ad 0)), (2, .ref (ad 50)), (3, .ref (ad 56)), (4, .int (nI (4 * j)))]) hx hb dL_law_708 hl (by decide) rfl (fun ls hl => ?_)
    refine lv_aload_n hx hb dL_law_710 rfl (lv_at hl 3 rfl) ?_
    refine lv_aload_n hx hb dL_law_711 rfl (lv_at hl 1 rfl) ?_
    refine lv_iload hx hb dL_law_712 (lv_at hl 5 rfl) ?_
    refine lv_iconst (v := nI 1) hx hb dL_law_714 (by decide) ?_
    refine m_iaddN hx hb dL_law_715 ?_
    refine va_sld hx hb hX hbl hAb hI.2 (vp_in_nI (n := (4 * j) + 1) (by omega) (by omega)) dL_law_716 ?_
    refine m_top (y := xs ((4 * j) + 1)) (by rw [nI_clamp (by omega)]) ?_
    refine m_stk (show ([.int (xs ((4 * j) + 1)), .ref (ad 50)] : List Value) = [.int p0, .ref (ad 50)] from by rw [hp0]) ?_
    refine m_callVi (As := [.int p0]) (rest := []) ⟨hx, hb, hml, hown, hts⟩ hE hI (c_X4_type k l ad 57 g9 _ th uns play rd n lat gar T came mis lost bel fig u ln pg p0 (by omega) hW hmw hcame hM9) (cwV 1 hts gL_law_X4_type rfl rfl rfl (by decide +kernel) ⟨Nat.le_of_ble_eq_true rfl, Nat.le_of_ble_eq_true rfl⟩) (i := 50) (by omega) hM9.1 rfl rfl hl.1 rfl (Nat.le_of_ble_eq_true rfl) dL_law_717 ⟨by show 57 + j + 1 ≤ 601024; omega, by show 2023 + 6 * j + 6 ≤ 7293034; omega⟩ (fun r9 g4 H locs hp hI => ?_)
    obtain ⟨hp, hk4⟩ := hp
    rcases hp with ⟨⟨hxo0, hxo1⟩, hr4, hM4⟩ | ⟨hxb0, hM4⟩ | ⟨⟨hxb0, hxb1⟩, hM4⟩
    · subst hr4
      have hC4 : CR k ad g4 uns play rd (n + tyN uns T n (tn p0)) lat gar (tyT uns T n (tn p0)) (came, mis, lost, bel, fig, fi, u, z, F) r := CR.kept hC9 (fun i hi => hk4 i (Or.inl hi))
      have h564 : g4 56 = .inl (k.2.1.2.2, 1, .inr (.inl fo1)) := (hk4 56 (by omega)).trans h561
      have ht0 : tn p0 < 55 := inC_tn hok0
      have hW4 : CW play rd (n + tyN uns T n (tn p0)) lat gar (tyT uns T n (tn p0)) := CW.type hW ht0 hok1
      refine lv_istore (lv' := [(6, .int (nI (tyN uns T n (tn p0)))), (5, .int (nI 0)), (0, .ref b), (1, .ref (ad 0)), (2, .ref (ad 50)), (3, .ref (ad 56)), (4, .int (nI (4 * j)))]) hx hb dL_law_720 hl (by decide) rfl (fun ls hl => ?_)
      refine lv_aload_n hx hb dL_law_722 rfl (lv_at hl 4 rfl) ?_
      refine m_callVi (As := []) (rest := []) ⟨hx, hb, hml, hown, hts⟩ hE hI (c_X4_thrown k l ad 57 g4 _ 0 uns play rd (n + tyN uns T n (tn p0)) lat gar (tyT uns T n (tn p0)) came mis lost bel fig u ln pg (by omega) hW4 hmw (by omega) hM4) (cwV 0 hts gL_law_X4_thrown rfl rfl rfl (by decide +kernel) ⟨Nat.le_of_ble_eq_true rfl, Nat.le_of_ble_eq_true rfl⟩) (i := 50) (by omega) hM4.1 rfl rfl hl.1 rfl (Nat.le_of_ble_eq_true rfl) dL_law_723 ⟨by show 57 + j + 1 ≤ 601024; omega, by show 2023 + 6 * j + 6 ≤ 7293034; omega⟩ (m_deti (fun H locs hI => ?_))
      refine lv_iload hx hb dL_law_726 (lv_at hl 1 rfl) ?_
      refine m_ceqN (tgt := 733) hx hb (by omega) (by omega) dL_law_728 (by decide) (fun c_728 => ?_) (fun c => absurd c (by decide))
      refine lv_iload hx hb dL_law_733 (lv_at hl 1 rfl) ?_
      refine m_zneN (tgt := 750) hx hb (by omega) dL_law_735 (by decide) (fun c => absurd c (by decide)) (fun c_735 => ?_)
      refine lv_aload_n hx hb dL_law_738 rfl (lv_at hl 5 rfl) ?_
      refine lv_iconst (v := nI 0) hx hb dL_law_739 (by decide) ?_
      refine m_lald hx hb hE hI 56 (by omega) (j := 0) h564 (by omega) (by omega) dL_law_740 ?_
      refine lv_iload hx hb dL_law_741 (lv_at hl 0 rfl) ?_
      refine lv_i2l (v := (nI (tyN uns T n (tn p0))).toInt64) hx hb dL_law_743 rfl ?_
      refine W.lcmp hx hb dL_law_744 ?_
      refine m_top (y := nI 0) (show lg_cmp (fo1 0) ((nI (tyN uns T n (tn p0))).toInt64) = nI 0 from by rw [nI_0]; refine (lg_cmp_eq _ _).mpr ?_; rw [hfo1]) ?_
      refine m_zeqN (tgt := 750) hx hb (by omega) dL_law_745 (by decide) (fun c_745 => ?_) (fun c => absurd c (by decide))
      refine lv_goto (tgt := 1350) hx hb dL_law_750 (by decide) ?_
      refine m_cs (c1 := 57 + (j + 1)) (s1 := 2023 + 6 * (j + 1)) (by omega) (by omega) ?_
      exact K d0 g4 H locs ls hd0 ⟨_, _, _, _, _, _, _, _, _, _, _, hC4, hM4, hY, hW4, hwf, hmw, (by show came ≤ 120 * (j + 1); omega), h564⟩ hI (lv_sub hl [2, 3, 4, 5, 6] rfl)
    · exact absurd (hok0.symm.trans hxb0) (by decide)
    · exfalso; omega
  · subst hr9
    rw [hgg] at hI
    refine lv_istore (lv' := [(5, .int (nI 1)), (0, .ref b), (1, .ref (ad 0)), (2, .ref (ad 50)), (3, .ref (ad 56)), (4, .int (nI (4 * j)))]) hx hb dL_law_708 hl (by decide) rfl (fun ls hl => ?_)
    refine lv_aload_n hx hb dL_law_710 rfl (lv_at hl 3 rfl) ?_
    refine lv_aload_n hx hb dL_law_711 rfl (lv_at hl 1 rfl) ?_
    refine lv_iload hx hb dL_law_712 (lv_at hl 5 rfl) ?_
    refine lv_iconst (v := nI 1) hx hb dL_law_714 (by decide) ?_
    refine m_iaddN hx hb dL_law_715 ?_
    refine va_sld hx hb hX hbl hAb hI.2 (vp_in_nI (n := (4 * j) + 1) (by omega) (by omega)) dL_law_716 ?_
    refine m_top (y := xs ((4 * j) + 1)) (by rw [nI_clamp (by omega)]) ?_
    refine m_stk (show ([.int (xs ((4 * j) + 1)), .ref (ad 50)] : List Value) = [.int p0, .ref (ad 50)] from by rw [hp0]) ?_
    refine m_callVi (As := [.int p0]) (rest := []) ⟨hx, hb, hml, hown, hts⟩ hE hI (c_X4_type k l ad 57 g _ th uns play rd n lat gar T came mis lost bel fig u ln pg p0 (by omega) hW hmw hcame hM) (cwV 1 hts gL_law_X4_type rfl rfl rfl (by decide +kernel) ⟨Nat.le_of_ble_eq_true rfl, Nat.le_of_ble_eq_true rfl⟩) (i := 50) (by omega) hM.1 rfl rfl hl.1 rfl (Nat.le_of_ble_eq_true rfl) dL_law_717 ⟨by show 57 + j + 1 ≤ 601024; omega, by show 2023 + 6 * j + 6 ≤ 7293034; omega⟩ (fun r9 g4 H locs hp hI => ?_)
    obtain ⟨hp, hk4⟩ := hp
    rcases hp with ⟨⟨hxo0, hxo1⟩, hr4, hM4⟩ | ⟨hxb0, hM4⟩ | ⟨⟨hxb0, hxb1⟩, hM4⟩
    · exact absurd (hxo0.symm.trans hba0) (by decide)
    · refine lv_istore (lv' := [(6, .int r9), (5, .int (nI 1)), (0, .ref b), (1, .ref (ad 0)), (2, .ref (ad 50)), (3, .ref (ad 56)), (4, .int (nI (4 * j)))]) hx hb dL_law_720 hl (by decide) rfl (fun ls hl => ?_)
      refine lv_aload_n hx hb dL_law_722 rfl (lv_at hl 4 rfl) ?_
      refine m_callVi (As := []) (rest := []) ⟨hx, hb, hml, hown, hts⟩ hE hI (c_X4_thrown k l ad 57 g4 _ 1 uns play rd n lat gar T came mis lost bel fig u ln pg (by omega) hW hmw (by omega) hM4) (cwV 0 hts gL_law_X4_thrown rfl rfl rfl (by decide +kernel) ⟨Nat.le_of_ble_eq_true rfl, Nat.le_of_ble_eq_true rfl⟩) (i := 50) (by omega) hM4.1 rfl rfl hl.1 rfl (Nat.le_of_ble_eq_true rfl) dL_law_723 ⟨by show 57 + j + 1 ≤ 601024; omega, by show 2023 + 6 * j + 6 ≤ 7293034; omega⟩ (m_deti (fun H locs hI => ?_))
      refine lv_iload hx hb dL_law_726 (lv_at hl 1 rfl) ?_
      refine m_ceqN (tgt := 733) hx hb (by omega) (by omega) dL_law_728 (by decide) (fun c_728 => ?_) (fun c => absurd c (by decide))
      refine lv_iload hx hb dL_law_733 (lv_at hl 1 rfl) ?_
      refine m_zneN (tgt := 750) hx hb (by omega) dL_law_735 (by decide) (fun c_735 => ?_) (fun c => absurd c (by decide))
      refine lv_goto (tgt := 1350) hx hb dL_law_750 (by decide) ?_
      refine m_cs (c1 := 57 + (j + 1)) (s1 := 2023 + 6 * (j + 1)) (by omega) (by omega) ?_
      exact K d0 g4 H locs ls hd0 ⟨_, _, _, _, _, _, _, _, _, _, _, CR.kept hC (fun i hi => hk4 i (Or.inl hi)), hM4, hY, hW, hwf, hmw, (by show came ≤ 120 * (j + 1); omega), (hk4 56 (by omega)).trans h56⟩ hI (lv_sub hl [2, 3, 4, 5, 6] rfl)
    · exact absurd (hxb0.symm.trans hba0) (by decide)
  · subst hr9
    rw [hgg] at hI
    refine lv_istore (lv' := [(5, .int (nI 2)), (0, .ref b), (1, .ref (ad 0)), (2, .ref (ad 50)), (3, .ref (ad 56)), (4, .int (nI (4 * j)))]) hx hb dL_law_708 hl (by decide) rfl (fun ls hl => ?_)
    refine lv_aload_n hx hb dL_law_710 rfl (lv_at hl 3 rfl) ?_
    refine lv_aload_n hx hb dL_law_711 rfl (lv_at hl 1 rfl) ?_
    refine lv_iload hx hb dL_law_712 (lv_at hl 5 rfl) ?_
    refine lv_iconst (v := nI 1) hx hb dL_law_714 (by decide) ?_
    refine m_iaddN hx hb dL_law_715 ?_
    refine va_sld hx hb hX hbl hAb hI.2 (vp_in_nI (n := (4 * j) + 1) (by omega) (by omega)) dL_law_716 ?_
    refine m_top (y := xs ((4 * j) + 1)) (by rw [nI_clamp (by omega)]) ?_
    refine m_stk (show ([.int (xs ((4 * j) + 1)), .ref (ad 50)] : List Value) = [.int p0, .ref (ad 50)] from by rw [hp0]) ?_
    refine m_callVi (As := [.int p0]) (rest := []) ⟨hx, hb, hml, hown, hts⟩ hE hI (c_X4_type k l ad 57 g _ th uns play rd n lat gar T came mis lost bel fig u ln pg p0 (by omega) hW hmw hcame hM) (cwV 1 hts gL_law_X4_type rfl rfl rfl (by decide +kernel) ⟨Nat.le_of_ble_eq_true rfl, Nat.le_of_ble_eq_true rfl⟩) (i := 50) (by omega) hM.1 rfl rfl hl.1 rfl (Nat.le_of_ble_eq_true rfl) dL_law_717 ⟨by show 57 + j + 1 ≤ 601024; omega, by show 2023 + 6 * j + 6 ≤ 7293034; omega⟩ (fun r9 g4 H locs hp hI => ?_)
    obtain ⟨hp, hk4⟩ := hp
    rcases hp with ⟨⟨hxo0, hxo1⟩, hr4, hM4⟩ | ⟨hxb0, hM4⟩ | ⟨⟨hxb0, hxb1⟩, hM4⟩
    · exfalso; omega
    · exact absurd (hba0.symm.trans hxb0) (by decide)
    · refine lv_istore (lv' := [(6, .int r9), (5, .int (nI 2)), (0, .ref b), (1, .ref (ad 0)), (2, .ref (ad 50)), (3, .ref (ad 56)), (4, .int (nI (4 * j)))]) hx hb dL_law_720 hl (by decide) rfl (fun ls hl => ?_)
      refine lv_aload_n hx hb dL_law_722 rfl (lv_at hl 4 rfl) ?_
      refine m_callVi (As := []) (rest := []) ⟨hx, hb, hml, hown, hts⟩ hE hI (c_X4_thrown k l ad 57 g4 _ 2 uns play rd n lat gar T came mis lost bel fig u ln pg (by omega) hW hmw (by omega) hM4) (cwV 0 hts gL_law_X4_thrown rfl rfl rfl (by decide +kernel) ⟨Nat.le_of_ble_eq_true rfl, Nat.le_of_ble_eq_true rfl⟩) (i := 50) (by omega) hM4.1 rfl rfl hl.1 rfl (Nat.le_of_ble_eq_true rfl) dL_law_723 ⟨by show 57 + j + 1 ≤ 601024; omega, by show 2023 + 6 * j + 6 ≤ 7293034; omega⟩ (m_deti (fun H locs hI => ?_))
      refine lv_iload hx hb dL_law_726 (lv_at hl 1 rfl) ?_
      refine m_ceqN (tgt := 733) hx hb (by omega) (by omega) dL_law_728 (by decide) (fun c_728 => ?_) (fun c => absurd c (by decide))
      refine lv_iload hx hb dL_law_733 (lv_at hl 1 rfl) ?_
      refine m_zneN (tgt := 750) hx hb (by omega) dL_law_735 (by decide) (fun c_735 => ?_) (fun c => absurd c (by decide))
      refine lv_goto (tgt := 1350) hx hb dL_law_750 (by decide) ?_
      refine m_cs (c1 := 57 + (j + 1)) (s1 := 2023 + 6 * (j + 1)) (by omega) (by omega) ?_
      exact K d0 g4 H locs ls hd0 ⟨_, _, _, _, _, _, _, _, _, _, _, CR.kept hC (fun i hi => hk4 i (Or.inl hi)), hM4, hY, hW, hwf, hmw, (by show came ≤ 120 * (j + 1); omega), (hk4 56 (by omega)).trans h56⟩ hI (lv_sub hl [2, 3, 4, 5, 6] rfl)
set_option maxHeartbeats 8000000 in
set_option maxRecDepth 100000 in
theorem st_rub {p : Program} {l : Launch} {e : Env} {s : State} {m : MethodId} {below : List Frame} {meth : Method} {c : Code} {b L : Nat} {xs : Nat → Int32} {Q : State → Prop} {k : mC} {A : Nat → Prop} {ad : Nat → Nat} {r : Nat → Option Nat} {j : Nat} (C0 : LC p l s m meth c b L xs k A ad j) {d0 : Drawn} (hd0 : s.drawn.sameBut d0 lw_cs) {g : Nat → va_E} {H : Heap} {locs : List Loc} {ls : Array Slot} (hI : mI k ad 57 g A s H locs) (hl : lv_has ls 9 [(0, .ref b), (1, .ref (ad 0)), (2, .ref (ad 50)), (3, .ref (ad 56)), (4, .int (nI (4 * j)))]) (hLI : LI k ad g r j) (K : LK p l e s m below meth c b Q k A ad r j) : W p l e room_1 (s.setDrawn d0) m #[Value.ref b] below meth c H locs (57 + j) (2023 + 6 * j) Q (F0 m 753 ls []) := by
  obtain ⟨hx, hb, hml, hown, htsL, hst, hX, hbl, hAb, hEd, hL, hj4⟩ := C0
  have hts := dr_words htsL d0
  have hE := hEd d0
  have hX : va_X b L xs (s.setDrawn d0) s.heap := hX
  obtain ⟨uns, play, rd, n, lat, gar, T, ⟨came, mis, lost, bel, fig, fi, u, z, F⟩, ⟨came', mis', lost', bel', fig', u', ln, pg⟩, th, fo, hC, hM, ⟨e1, e2, e3, e4, e5, e6, hR2, hR3⟩, hW, hwf, hmw, hcj, h56⟩ := hLI
  have f1 : came = came' := e1
  have f2 : mis = mis' := e2
  have f3 : lost = lost' := e3
  have f4 : bel = bel' := e4
  have f5 : fig = fig' := e5
  have f6 : u = u' := Eq.symm e6
  clear e1 e2 e3 e4 e5 e6
  subst f1 f2 f3 f4 f5 f6
  have hR : PgR (fi, u, z, F) (u, ln, pg) := ⟨rfl, hR2, hR3⟩
  have hR2 : ∀ l, l < u → z (slt fi l) = ln l := hR2
  have hR3 : ∀ l, l < u → ∀ i, i < ln l → F (slt fi l) i = pg (40 * l + i) := hR3
  have hC : CR k ad g uns play rd n lat gar T (came, mis, lost, bel, fig, fi, u, z, F) r := hC
  have hM : MR k ad g th uns play rd n lat gar T (came, mis, lost, bel, fig, u, ln, pg) := hM
  have hwf : cWf (fi, u, z, F) := hwf
  have hmw : mWf (u, ln, pg) := hmw
  have hcj : came ≤ 120 * j := hcj
  have hcame : came < 2000000000 := by omega
  have hu20 : u ≤ 20 := hmw.2.1
  have hn120 : n ≤ 120 := hW.2.2.1
  have hrdn : rd ≤ n := hW.2.1
  have hpl9 : play ≤ 9 := hW.1
  have hY : YR (came, mis, lost, bel, fig, fi, u, z, F) (came, mis, lost, bel, fig, u, ln, pg) := ⟨rfl, rfl, rfl, rfl, rfl, hR⟩
  refine lv_aload_n hx hb dL_law_753 rfl (lv_at hl 1 rfl) ?_
  refine lv_aload_n hx hb dL_law_754 rfl (lv_at hl 0 rfl) ?_
  refine lv_iload hx hb dL_law_755 (lv_at hl 4 rfl) ?_
  refine lv_iconst (v := nI 1) hx hb dL_law_757 (by decide) ?_
  refine m_iaddN hx hb dL_law_758 ?_
  refine va_sld hx hb hX hbl hAb hI.2 (vp_in_nI (n := (4 * j) + 1) (by omega) (by omega)) dL_law_759 ?_
  refine m_top (y := xs ((4 * j) + 1)) (by rw [nI_clamp (by omega)]) ?_
  refine lv_aload_n hx hb dL_law_760 rfl (lv_at hl 3 rfl) ?_
  obtain ⟨p0, hp0⟩ : ∃ zz, zz = xs ((4 * j) + 1) := ⟨_, rfl⟩
  refine m_stk (show ([.ref (ad 56), .int (xs ((4 * j) + 1)), .ref (ad 0)] : List Value) = [.ref (ad 56), .int p0, .ref (ad 0)] from by rw [hp0]) ?_
  refine m_callSL (As := [.ref (ad 0), .int p0, .ref (ad 56)]) (rest := []) ⟨hx, hb, hml, hown, hts⟩ hE hI (c_L_rub k l hst ad 57 g _ uns play rd n lat gar T came mis lost bel fig fi u z F r p0 fo (by omega) hW hwf hcame hC h56) (vx_cwSW 3 hts gL_law_L_rub rfl rfl rfl (by decide +kernel) ⟨Nat.le_of_ble_eq_true rfl, Nat.le_of_ble_eq_true rfl⟩) rfl hl.1 rfl (Nat.le_of_ble_eq_true rfl) dL_law_761 ⟨by show 57 + j + 1 ≤ 601024; omega, by show 2023 + 6 * j + 6 ≤ 7293034; omega⟩ (fun r9 g9 H locs hp hI => ?_)
  rcases hp with ⟨hr9, hok0, ⟨fo1, h561, hfo1⟩, hC9, hk9⟩ | ⟨hr9, hba0, hgg⟩
  · subst hr9
    have hM9 : MR k ad g9 th uns play rd n lat gar T (came, mis, lost, bel, fig, u, ln, pg) := MR.kept hM (fun i h1 h2 => hk9 i (by omega) (by omega))
    refine lv_istore (lv' := [(5, .int (nI 0)), (0, .ref b), (1, .ref (ad 0)), (2, .ref (ad 50)), (3, .ref (ad 56)), (4, .int (nI (4 * j)))]) hx hb dL_law_764 hl (by decide) rfl (fun ls hl => ?_)
    refine lv_aload_n hx hb dL_law_766 rfl (lv_at hl 3 rfl) ?_
    refine lv_aload_n hx hb dL_law_767 rfl (lv_at hl 1 rfl) ?_
    refine lv_iload hx hb dL_law_768 (lv_at hl 5 rfl) ?_
    refine lv_iconst (v := nI 1) hx hb dL_law_770 (by decide) ?_
    refine m_iaddN hx hb dL_law_771 ?_
    refine va_sld hx hb hX hbl hAb hI.2 (vp_in_nI (n := (4 * j) + 1) (by omega) (by omega)) dL_law_772 ?_
    refine m_top (y := xs ((4 * j) + 1)) (by rw [nI_clamp (by omega)]) ?_
    refine m_stk (show ([.int (xs ((4 * j) + 1)), .ref (ad 50)] : List Value) = [.int p0, .ref (ad 50)] from by rw [hp0]) ?_
    refine m_callVi (As := [.int p0]) (rest := []) ⟨hx, hb, hml, hown, hts⟩ hE hI (c_X4_rub k l ad 57 g9 _ th uns play rd n lat gar T came mis lost bel fig u ln pg p0 (by omega) hW hmw hcame hM9) (cwV 1 hts gL_law_X4_rub rfl rfl rfl (by decide +kernel) ⟨Nat.le_of_ble_eq_true rfl, Nat.le_of_ble_eq_true rfl⟩) (i := 50) (by omega) hM9.1 rfl rfl hl.1 rfl (Nat.le_of_ble_eq_true rfl) dL_law_773 ⟨by show 57 + j + 1 ≤ 601024; omega, by show 2023 + 6 * j + 6 ≤ 7293034; omega⟩ (fun r9 g4 H locs hp hI => ?_)
    obtain ⟨hp, hk4⟩ := hp
    rcases hp with ⟨hxo0, hr4, hM4⟩ | ⟨hxb0, hM4⟩
    · subst hr4
      have hC4 : CR k ad g4 uns play rd n lat gar (va_up T (tn p0) 31) (came, mis, lost, bel, fig, fi, u, z, F) r := CR.kept hC9 (fun i hi => hk4 i (Or.inl hi))
      have h564 : g4 56 = .inl (k.2.1.2.2, 1, .inr (.inl fo1)) := (hk4 56 (by omega)).trans h561
      have ht0 : tn p0 < n := inN_tn hok0 (by omega)
      have hW4 : CW play rd n lat gar (va_up T (tn p0) 31) := hW.rub (by omega)
      refine lv_istore (lv' := [(6, .int (nI (T (tn p0)))), (5, .int (nI 0)), (0, .ref b), (1, .ref (ad 0)), (2, .ref (ad 50)), (3, .ref (ad 56)), (4, .int (nI (4 * j)))]) hx hb dL_law_776 hl (by decide) rfl (fun ls hl => ?_)
      refine lv_aload_n hx hb dL_law_778 rfl (lv_at hl 4 rfl) ?_
      refine m_callVi (As := []) (rest := []) ⟨hx, hb, hml, hown, hts⟩ hE hI (c_X4_thrown k l ad 57 g4 _ 0 uns play rd n lat gar (va_up T (tn p0) 31) came mis lost bel fig u ln pg (by omega) hW4 hmw (by omega) hM4) (cwV 0 hts gL_law_X4_thrown rfl rfl rfl (by decide +kernel) ⟨Nat.le_of_ble_eq_true rfl, Nat.le_of_ble_eq_true rfl⟩) (i := 50) (by omega) hM4.1 rfl rfl hl.1 rfl (Nat.le_of_ble_eq_true rfl) dL_law_779 ⟨by show 57 + j + 1 ≤ 601024; omega, by show 2023 + 6 * j + 6 ≤ 7293034; omega⟩ (m_deti (fun H locs hI => ?_))
      refine lv_iload hx hb dL_law_782 (lv_at hl 1 rfl) ?_
      refine m_ceqN (tgt := 789) hx hb (by omega) (by omega) dL_law_784 (by decide) (fun c_784 => ?_) (fun c => absurd c (by decide))
      refine lv_iload hx hb dL_law_789 (lv_at hl 1 rfl) ?_
      refine m_zneN (tgt := 806) hx hb (by omega) dL_law_791 (by decide) (fun c => absurd c (by decide)) (fun c_791 => ?_)
      refine lv_aload_n hx hb dL_law_794 rfl (lv_at hl 5 rfl) ?_
      refine lv_iconst (v := nI 0) hx hb dL_law_795 (by decide) ?_
      refine m_lald hx hb hE hI 56 (by omega) (j := 0) h564 (by omega) (by omega) dL_law_796 ?_
      refine lv_iload hx hb dL_law_797 (lv_at hl 0 rfl) ?_
      refine lv_i2l (v := (nI (T (tn p0))).toInt64) hx hb dL_law_799 rfl ?_
      refine W.lcmp hx hb dL_law_800 ?_
      refine m_top (y := nI 0) (show lg_cmp (fo1 0) ((nI (T (tn p0))).toInt64) = nI 0 from by rw [nI_0]; refine (lg_cmp_eq _ _).mpr ?_; rw [hfo1]) ?_
      refine m_zeqN (tgt := 806) hx hb (by omega) dL_law_801 (by decide) (fun c_801 => ?_) (fun c => absurd c (by decide))
      refine lv_goto (tgt := 1350) hx hb dL_law_806 (by decide) ?_
      refine m_cs (c1 := 57 + (j + 1)) (s1 := 2023 + 6 * (j + 1)) (by omega) (by omega) ?_
      exact K d0 g4 H locs ls hd0 ⟨_, _, _, _, _, _, _, _, _, _, _, hC4, hM4, hY, hW4, hwf, hmw, (by show came ≤ 120 * (j + 1); omega), h564⟩ hI (lv_sub hl [2, 3, 4, 5, 6] rfl)
    · exact absurd (hok0.symm.trans hxb0) (by decide)
  · subst hr9
    rw [hgg] at hI
    refine lv_istore (lv' := [(5, .int (nI 1)), (0, .ref b), (1, .ref (ad 0)), (2, .ref (ad 50)), (3, .ref (ad 56)), (4, .int (nI (4 * j)))]) hx hb dL_law_764 hl (by decide) rfl (fun ls hl => ?_)
    refine lv_aload_n hx hb dL_law_766 rfl (lv_at hl 3 rfl) ?_
    refine lv_aload_n hx hb dL_law_767 rfl (lv_at hl 1 rfl) ?_
    refine lv_iload hx hb dL_law_768 (lv_at hl 5 rfl) ?_
    refine lv_iconst (v := nI 1) hx hb dL_law_770 (by decide) ?_
    refine m_iaddN hx hb dL_law_771 ?_
    refine va_sld hx hb hX hbl hAb hI.2 (vp_in_nI (n := (4 * j) + 1) (by omega) (by omega)) dL_law_772 ?_
    refine m_top (y := xs ((4 * j) + 1)) (by rw [nI_clamp (by omega)]) ?_
    refine m_stk (show ([.int (xs ((4 * j) + 1)), .ref (ad 50)] : List Value) = [.int p0, .ref (ad 50)] from by rw [hp0]) ?_
    refine m_callVi (As := [.int p0]) (rest := []) ⟨hx, hb, hml, hown, hts⟩ hE hI (c_X4_rub k l ad 57 g _ th uns play rd n lat gar T came mis lost bel fig u ln pg p0 (by omega) hW hmw hcame hM) (cwV 1 hts gL_law_X4_rub rfl rfl rfl (by decide +kernel) ⟨Nat.le_of_ble_eq_true rfl, Nat.le_of_ble_eq_true rfl⟩) (i := 50) (by omega) hM.1 rfl rfl hl.1 rfl (Nat.le_of_ble_eq_true rfl) dL_law_773 ⟨by show 57 + j + 1 ≤ 601024; omega, by show 2023 + 6 * j + 6 ≤ 7293034; omega⟩ (fun r9 g4 H locs hp hI => ?_)
    obtain ⟨hp, hk4⟩ := hp
    rcases hp with ⟨hxo0, hr4, hM4⟩ | ⟨hxb0, hM4⟩
    · exact absurd (hxo0.symm.trans hba0) (by decide)
    · refine lv_istore (lv' := [(6, .int r9), (5, .int (nI 1)), (0, .ref b), (1, .ref (ad 0)), (2, .ref (ad 50)), (3, .ref (ad 56)), (4, .int (nI (4 * j)))]) hx hb dL_law_776 hl (by decide) rfl (fun ls hl => ?_)
      refine lv_aload_n hx hb dL_law_778 rfl (lv_at hl 4 rfl) ?_
      refine m_callVi (As := []) (rest := []) ⟨hx, hb, hml, hown, hts⟩ hE hI (c_X4_thrown k l ad 57 g4 _ 1 uns play rd n lat gar T came mis lost bel fig u ln pg (by omega) hW hmw (by omega) hM4) (cwV 0 hts gL_law_X4_thrown rfl rfl rfl (by decide +kernel) ⟨Nat.le_of_ble_eq_true rfl, Nat.le_of_ble_eq_true rfl⟩) (i := 50) (by omega) hM4.1 rfl rfl hl.1 rfl (Nat.le_of_ble_eq_true rfl) dL_law_779 ⟨by show 57 + j + 1 ≤ 601024; omega, by show 2023 + 6 * j + 6 ≤ 7293034; omega⟩ (m_deti (fun H locs hI => ?_))
      refine lv_iload hx hb dL_law_782 (lv_at hl 1 rfl) ?_
      refine m_ceqN (tgt := 789) hx hb (by omega) (by omega) dL_law_784 (by decide) (fun c_784 => ?_) (fun c => absurd c (by decide))
      refine lv_iload hx hb dL_law_789 (lv_at hl 1 rfl) ?_
      refine m_zneN (tgt := 806) hx hb (by omega) dL_law_791 (by decide) (fun c_791 => ?_) (fun c => absurd c (by decide))
      refine lv_goto (tgt := 1350) hx hb dL_law_806 (by decide) ?_
      refine m_cs (c1 := 57 + (j + 1)) (s1 := 2023 + 6 * (j + 1)) (by omega) (by omega) ?_
      exact K d0 g4 H locs ls hd0 ⟨_, _, _, _, _, _, _, _, _, _, _, CR.kept hC (fun i hi => hk4 i (Or.inl hi)), hM4, hY, hW, hwf, hmw, (by show came ≤ 120 * (j + 1); omega), (hk4 56 (by omega)).trans h56⟩ hI (lv_sub hl [2, 3, 4, 5, 6] rfl)
set_option maxHeartbeats 8000000 in
set_option maxRecDepth 100000 in
theorem st_run {p : Program} {l : Launch} {e : Env} {s : State} {m : MethodId} {below : List Frame} {meth : Method} {c : Code} {b L : Nat} {xs : Nat → Int32} {Q : State → Prop} {k : mC} {A : Nat → Prop} {ad : Nat → Nat} {r : Nat → Option Nat} {j : Nat} (C0 : LC p l s m meth c b L xs k A ad j) {d0 : Drawn} (hd0 : s.drawn.sameBut d0 lw_cs) {g : Nat → va_E} {H : Heap} {locs : List Loc} {ls : Array Slot} (hI : mI k ad 57 g A s H locs) (hl : lv_has ls 9 [(0, .ref b), (1, .ref (ad 0)), (2, .ref (ad 50)), (3, .ref (ad 56)), (4, .int (nI (4 * j)))]) (hLI : LI k ad g r j) (K : LK p l e s m below meth c b Q k A ad r j) : W p l e room_1 (s.setDrawn d0) m #[Value.ref b] below meth c H locs (57 + j) (2023 + 6 * j) Q (F0 m 809 ls []) := by
  obtain ⟨hx, hb, hml, hown, htsL, hst, hX, hbl, hAb, hEd, hL, hj4⟩ := C0
  have hts := dr_words htsL d0
  have hE := hEd d0
  have hX : va_X b L xs (s.setDrawn d0) s.heap := hX
  obtain ⟨uns, play, rd, n, lat, gar, T, ⟨came, mis, lost, bel, fig, fi, u, z, F⟩, ⟨came', mis', lost', bel', fig', u', ln, pg⟩, th, fo, hC, hM, ⟨e1, e2, e3, e4, e5, e6, hR2, hR3⟩, hW, hwf, hmw, hcj, h56⟩ := hLI
  have f1 : came = came' := e1
  have f2 : mis = mis' := e2
  have f3 : lost = lost' := e3
  have f4 : bel = bel' := e4
  have f5 : fig = fig' := e5
  have f6 : u = u' := Eq.symm e6
  clear e1 e2 e3 e4 e5 e6
  subst f1 f2 f3 f4 f5 f6
  have hR : PgR (fi, u, z, F) (u, ln, pg) := ⟨rfl, hR2, hR3⟩
  have hR2 : ∀ l, l < u → z (slt fi l) = ln l := hR2
  have hR3 : ∀ l, l < u → ∀ i, i < ln l → F (slt fi l) i = pg (40 * l + i) := hR3
  have hC : CR k ad g uns play rd n lat gar T (came, mis, lost, bel, fig, fi, u, z, F) r := hC
  have hM : MR k ad g th uns play rd n lat gar T (came, mis, lost, bel, fig, u, ln, pg) := hM
  have hwf : cWf (fi, u, z, F) := hwf
  have hmw : mWf (u, ln, pg) := hmw
  have hcj : came ≤ 120 * j := hcj
  have hcame : came < 2000000000 := by omega
  have hu20 : u ≤ 20 := hmw.2.1
  have hn120 : n ≤ 120 := hW.2.2.1
  have hrdn : rd ≤ n := hW.2.1
  have hpl9 : play ≤ 9 := hW.1
  have hY : YR (came, mis, lost, bel, fig, fi, u, z, F) (came, mis, lost, bel, fig, u, ln, pg) := ⟨rfl, rfl, rfl, rfl, rfl, hR⟩
  refine lv_aload_n hx hb dL_law_809 rfl (lv_at hl 1 rfl) ?_
  refine lv_aload_n hx hb dL_law_810 rfl (lv_at hl 0 rfl) ?_
  refine lv_iload hx hb dL_law_811 (lv_at hl 4 rfl) ?_
  refine lv_iconst (v := nI 1) hx hb dL_law_813 (by decide) ?_
  refine m_iaddN hx hb dL_law_814 ?_
  refine va_sld hx hb hX hbl hAb hI.2 (vp_in_nI (n := (4 * j) + 1) (by omega) (by omega)) dL_law_815 ?_
  refine m_top (y := xs ((4 * j) + 1)) (by rw [nI_clamp (by omega)]) ?_
  refine lv_aload_n hx hb dL_law_816 rfl (lv_at hl 3 rfl) ?_
  obtain ⟨p0, hp0⟩ : ∃ zz, zz = xs ((4 * j) + 1) := ⟨_, rfl⟩
  refine m_stk (show ([.ref (ad 56), .int (xs ((4 * j) + 1)), .ref (ad 0)] : List Value) = [.ref (ad 56), .int p0, .ref (ad 0)] from by rw [hp0]) ?_
  refine m_callSL (As := [.ref (ad 0), .int p0, .ref (ad 56)]) (rest := []) ⟨hx, hb, hml, hown, hts⟩ hE hI (c_L_run k l hst ad 57 g _ uns play rd n lat gar T came mis lost bel fig fi u z F r p0 fo (by omega) hW hwf hcame hC h56) (vx_cwSW 3 hts gL_law_L_run rfl rfl rfl (by decide +kernel) ⟨Nat.le_of_ble_eq_true rfl, Nat.le_of_ble_eq_true rfl⟩) rfl hl.1 rfl (Nat.le_of_ble_eq_true rfl) dL_law_817 ⟨by show 57 + j + 1 ≤ 601024; omega, by show 2023 + 6 * j + 6 ≤ 7293034; omega⟩ (fun r9 g9 H locs hp hI => ?_)
  rcases hp with ⟨hr9, hok0, ⟨fo1, h561, hfo1⟩, hC9, hk9⟩ | ⟨hr9, hba0, hgg⟩
  · subst hr9
    have hM9 : MR k ad g9 th uns play rd n lat gar T (came, mis, lost, bel, fig, u, ln, pg) := MR.kept hM (fun i h1 h2 => hk9 i (by omega) (by omega))
    refine lv_istore (lv' := [(5, .int (nI 0)), (0, .ref b), (1, .ref (ad 0)), (2, .ref (ad 50)), (3, .ref (ad 56)), (4, .int (nI (4 * j)))]) hx hb dL_law_820 hl (by decide) rfl (fun ls hl => ?_)
    refine lv_aload_n hx hb dL_law_822 rfl (lv_at hl 3 rfl) ?_
    refine lv_aload_n hx hb dL_law_823 rfl (lv_at hl 1 rfl) ?_
    refine lv_iload hx hb dL_law_824 (lv_at hl 5 rfl) ?_
    refine lv_iconst (v := nI 1) hx hb dL_law_826 (by decide) ?_
    refine m_iaddN hx hb dL_law_827 ?_
    refine va_sld hx hb hX hbl hAb hI.2 (vp_in_nI (n := (4 * j) + 1) (by omega) (by omega)) dL_law_828 ?_
    refine m_top (y := xs ((4 * j) + 1)) (by rw [nI_clamp (by omega)]) ?_
    refine m_stk (show ([.int (xs ((4 * j) + 1)), .ref (ad 50)] : List Value) = [.int p0, .ref (ad 50)] from by rw [hp0]) ?_
    refine m_callVi (As := [.int p0]) (rest := []) ⟨hx, hb, hml, hown, hts⟩ hE hI (c_X4_run k l ad 57 g9 _ th uns play rd n lat gar T came mis lost bel fig u ln pg p0 (by omega) hW hmw hcame hM9) (cwV 1 hts gL_law_X4_run rfl rfl rfl (by decide +kernel) ⟨Nat.le_of_ble_eq_true rfl, Nat.le_of_ble_eq_true rfl⟩) (i := 50) (by omega) hM9.1 rfl rfl hl.1 rfl (Nat.le_of_ble_eq_true rfl) dL_law_829 ⟨by show 57 + j + 1 ≤ 601024; omega, by show 2023 + 6 * j + 6 ≤ 7293034; omega⟩ (fun r9 g4 H locs hp hI => ?_)
    obtain ⟨hp, hk4⟩ := hp
    rcases hp with ⟨hxo0, hr4, hM4⟩ | ⟨hxb0, hM4⟩
    · subst hr4
      have hC4 : CR k ad g4 uns play (rd + min (tn p0) (n - rd)) n lat gar T (yRun cNl cFull cAdd uns play lat gar T rd (came, mis, lost, bel, fig, fi, u, z, F) (min (tn p0) (n - rd))) r := CR.kept hC9 (fun i hi => hk4 i (Or.inl hi))
      have h564 : g4 56 = .inl (k.2.1.2.2, 1, .inr (.inl fo1)) := (hk4 56 (by omega)).trans h561
      have hW4 : CW play (rd + min (tn p0) (n - rd)) n lat gar T := hW.rd (by omega)
      have hY4 := YR_run uns play lat gar T rd (y := (came, mis, lost, bel, fig, fi, u, z, F)) (v := (came, mis, lost, bel, fig, u, ln, pg)) hwf hmw hY (min (tn p0) (n - rd))
      have hwf4 := cWf_run (uns := uns) (play := play) (lat := lat) (gar := gar) (T := T) (rd := rd) (y := (came, mis, lost, bel, fig, fi, u, z, F)) hwf (min (tn p0) (n - rd))
      have hmw4 := mWf_run (uns := uns) (play := play) (lat := lat) (gar := gar) (T := T) (rd := rd) (y := (came, mis, lost, bel, fig, u, ln, pg)) hmw (min (tn p0) (n - rd))
      have hca4 : (yRun mNl mFull mAdd uns play lat gar T rd (came, mis, lost, bel, fig, u, ln, pg) (min (tn p0) (n - rd))).1 = came + min (tn p0) (n - rd) := yRun_1 (min (tn p0) (n - rd))
      obtain ⟨v4, hv4⟩ : ∃ zz : YT PM, zz = yRun mNl mFull mAdd uns play lat gar T rd (came, mis, lost, bel, fig, u, ln, pg) (min (tn p0) (n - rd)) := ⟨_, rfl⟩
      rw [← hv4] at hM4 hY4 hmw4 hca4
      obtain ⟨ca4, mi4, lo4, be4, fg4, u4, ln4, pg4⟩ := v4
      have hca4 : ca4 = came + min (tn p0) (n - rd) := hca4
      have hca5 := hY4.1
      refine lv_istore (lv' := [(6, .int (nI (min (tn p0) (n - rd)))), (5, .int (nI 0)), (0, .ref b), (1, .ref (ad 0)), (2, .ref (ad 50)), (3, .ref (ad 56)), (4, .int (nI (4 * j)))]) hx hb dL_law_832 hl (by decide) rfl (fun ls hl => ?_)
      refine lv_aload_n hx hb dL_law_834 rfl (lv_at hl 4 rfl) ?_
      refine m_callVi (As := []) (rest := []) ⟨hx, hb, hml, hown, hts⟩ hE hI (c_X4_thrown k l ad 57 g4 _ 0 uns play (rd + min (tn p0) (n - rd)) n lat gar T ca4 mi4 lo4 be4 fg4 u4 ln4 pg4 (by omega) hW4 hmw4 (by omega) hM4) (cwV 0 hts gL_law_X4_thrown rfl rfl rfl (by decide +kernel) ⟨Nat.le_of_ble_eq_true rfl, Nat.le_of_ble_eq_true rfl⟩) (i := 50) (by omega) hM4.1 rfl rfl hl.1 rfl (Nat.le_of_ble_eq_true rfl) dL_law_835 ⟨by show 57 + j + 1 ≤ 601024; omega, by show 2023 + 6 * j + 6 ≤ 7293034; omega⟩ (m_deti (fun H locs hI => ?_))
      refine lv_iload hx hb dL_law_838 (lv_at hl 1 rfl) ?_
      refine m_ceqN (tgt := 845) hx hb (by omega) (by omega) dL_law_840 (by decide) (fun c_840 => ?_) (fun c => absurd c (by decide))
      refine lv_iload hx hb dL_law_845 (lv_at hl 1 rfl) ?_
      refine m_zneN (tgt := 862) hx hb (by omega) dL_law_847 (by decide) (fun c => absurd c (by decide)) (fun c_847 => ?_)
      refine lv_aload_n hx hb dL_law_850 rfl (lv_at hl 5 rfl) ?_
      refine lv_iconst (v := nI 0) hx hb dL_law_851 (by decide) ?_
      refine m_lald hx hb hE hI 56 (by omega) (j := 0) h564 (by omega) (by omega) dL_law_852 ?_
      refine lv_iload hx hb dL_law_853 (lv_at hl 0 rfl) ?_
      refine lv_i2l (v := (nI (min (tn p0) (n - rd))).toInt64) hx hb dL_law_855 rfl ?_
      refine W.lcmp hx hb dL_law_856 ?_
      refine m_top (y := nI 0) (show lg_cmp (fo1 0) ((nI (min (tn p0) (n - rd))).toInt64) = nI 0 from by rw [nI_0]; refine (lg_cmp_eq _ _).mpr ?_; rw [hfo1]) ?_
      refine m_zeqN (tgt := 862) hx hb (by omega) dL_law_857 (by decide) (fun c_857 => ?_) (fun c => absurd c (by decide))
      refine lv_goto (tgt := 1350) hx hb dL_law_862 (by decide) ?_
      refine m_cs (c1 := 57 + (j + 1)) (s1 := 2023 + 6 * (j + 1)) (by omega) (by omega) ?_
      exact K d0 g4 H locs ls hd0 ⟨_, _, _, _, _, _, _, _, _, _, _, hC4, hM4, hY4, hW4, hwf4, hmw4, (by rw [hca5]; show ca4 ≤ 120 * (j + 1); omega), h564⟩ hI (lv_sub hl [2, 3, 4, 5, 6] rfl)
    · exact absurd (hok0.symm.trans hxb0) (by decide)
  · subst hr9
    rw [hgg] at hI
    refine lv_istore (lv' := [(5, .int (nI 1)), (0, .ref b), (1, .ref (ad 0)), (2, .ref (ad 50)), (3, .ref (ad 56)), (4, .int (nI (4 * j)))]) hx hb dL_law_820 hl (by decide) rfl (fun ls hl => ?_)
    refine lv_aload_n hx hb dL_law_822 rfl (lv_at hl 3 rfl) ?_
    refine lv_aload_n hx hb dL_law_823 rfl (lv_at hl 1 rfl) ?_
    refine lv_iload hx hb dL_law_824 (lv_at hl 5 rfl) ?_
    refine lv_iconst (v := nI 1) hx hb dL_law_826 (by decide) ?_
    refine m_iaddN hx hb dL_law_827 ?_
    refine va_sld hx hb hX hbl hAb hI.2 (vp_in_nI (n := (4 * j) + 1) (by omega) (by omega)) dL_law_828 ?_
    refine m_top (y := xs ((4 * j) + 1)) (by rw [nI_clamp (by omega)]) ?_
    refine m_stk (show ([.int (xs ((4 * j) + 1)), .ref (ad 50)] : List Value) = [.int p0, .ref (ad 50)] from by rw [hp0]) ?_
    refine m_callVi (As := [.int p0]) (rest := []) ⟨hx, hb, hml, hown, hts⟩ hE hI (c_X4_run k l ad 57 g _ th uns play rd n lat gar T came mis lost bel fig u ln pg p0 (by omega) hW hmw hcame hM) (cwV 1 hts gL_law_X4_run rfl rfl rfl (by decide +kernel) ⟨Nat.le_of_ble_eq_true rfl, Nat.le_of_ble_eq_true rfl⟩) (i := 50) (by omega) hM.1 rfl rfl hl.1 rfl (Nat.le_of_ble_eq_true rfl) dL_law_829 ⟨by show 57 + j + 1 ≤ 601024; omega, by show 2023 + 6 * j + 6 ≤ 7293034; omega⟩ (fun r9 g4 H locs hp hI => ?_)
    obtain ⟨hp, hk4⟩ := hp
    rcases hp with ⟨hxo0, hr4, hM4⟩ | ⟨hxb0, hM4⟩
    · exact absurd (hxo0.symm.trans hba0) (by decide)
    · refine lv_istore (lv' := [(6, .int r9), (5, .int (nI 1)), (0, .ref b), (1, .ref (ad 0)), (2, .ref (ad 50)), (3, .ref (ad 56)), (4, .int (nI (4 * j)))]) hx hb dL_law_832 hl (by decide) rfl (fun ls hl => ?_)
      refine lv_aload_n hx hb dL_law_834 rfl (lv_at hl 4 rfl) ?_
      refine m_callVi (As := []) (rest := []) ⟨hx, hb, hml, hown, hts⟩ hE hI (c_X4_thrown k l ad 57 g4 _ 1 uns play rd n lat gar T came mis lost bel fig u ln pg (by omega) hW hmw (by omega) hM4) (cwV 0 hts gL_law_X4_thrown rfl rfl rfl (by decide +kernel) ⟨Nat.le_of_ble_eq_true rfl, Nat.le_of_ble_eq_true rfl⟩) (i := 50) (by omega) hM4.1 rfl rfl hl.1 rfl (Nat.le_of_ble_eq_true rfl) dL_law_835 ⟨by show 57 + j + 1 ≤ 601024; omega, by show 2023 + 6 * j + 6 ≤ 7293034; omega⟩ (m_deti (fun H locs hI => ?_))
      refine lv_iload hx hb dL_law_838 (lv_at hl 1 rfl) ?_
      refine m_ceqN (tgt := 845) hx hb (by omega) (by omega) dL_law_840 (by decide) (fun c_840 => ?_) (fun c => absurd c (by decide))
      refine lv_iload hx hb dL_law_845 (lv_at hl 1 rfl) ?_
      refine m_zneN (tgt := 862) hx hb (by omega) dL_law_847 (by decide) (fun c_847 => ?_) (fun c => absurd c (by decide))
      refine lv_goto (tgt := 1350) hx hb dL_law_862 (by decide) ?_
      refine m_cs (c1 := 57 + (j + 1)) (s1 := 2023 + 6 * (j + 1)) (by omega) (by omega) ?_
      exact K d0 g4 H locs ls hd0 ⟨_, _, _, _, _, _, _, _, _, _, _, CR.kept hC (fun i hi => hk4 i (Or.inl hi)), hM4, hY, hW, hwf, hmw, (by show came ≤ 120 * (j + 1); omega), (hk4 56 (by omega)).trans h56⟩ hI (lv_sub hl [2, 3, 4, 5, 6] rfl)
set_option maxHeartbeats 8000000 in
set_option maxRecDepth 100000 in
theorem st_wind {p : Program} {l : Launch} {e : Env} {s : State} {m : MethodId} {below : List Frame} {meth : Method} {c : Code} {b L : Nat} {xs : Nat → Int32} {Q : State → Prop} {k : mC} {A : Nat → Prop} {ad : Nat → Nat} {r : Nat → Option Nat} {j : Nat} (C0 : LC p l s m meth c b L xs k A ad j) {d0 : Drawn} (hd0 : s.drawn.sameBut d0 lw_cs) {g : Nat → va_E} {H : Heap} {locs : List Loc} {ls : Array Slot} (hI : mI k ad 57 g A s H locs) (hl : lv_has ls 9 [(0, .ref b), (1, .ref (ad 0)), (2, .ref (ad 50)), (3, .ref (ad 56)), (4, .int (nI (4 * j)))]) (hLI : LI k ad g r j) (K : LK p l e s m below meth c b Q k A ad r j) : W p l e room_1 (s.setDrawn d0) m #[Value.ref b] below meth c H locs (57 + j) (2023 + 6 * j) Q (F0 m 865 ls []) := by
  obtain ⟨hx, hb, hml, hown, htsL, hst, hX, hbl, hAb, hEd, hL, hj4⟩ := C0
  have hts := dr_words htsL d0
  have hE := hEd d0
  have hX : va_X b L xs (s.setDrawn d0) s.heap := hX
  obtain ⟨uns, play, rd, n, lat, gar, T, ⟨came, mis, lost, bel, fig, fi, u, z, F⟩, ⟨came', mis', lost', bel', fig', u', ln, pg⟩, th, fo, hC, hM, ⟨e1, e2, e3, e4, e5, e6, hR2, hR3⟩, hW, hwf, hmw, hcj, h56⟩ := hLI
  have f1 : came = came' := e1
  have f2 : mis = mis' := e2
  have f3 : lost = lost' := e3
  have f4 : bel = bel' := e4
  have f5 : fig = fig' := e5
  have f6 : u = u' := Eq.symm e6
  clear e1 e2 e3 e4 e5 e6
  subst f1 f2 f3 f4 f5 f6
  have hR : PgR (fi, u, z, F) (u, ln, pg) := ⟨rfl, hR2, hR3⟩
  have hR2 : ∀ l, l < u → z (slt fi l) = ln l := hR2
  have hR3 : ∀ l, l < u → ∀ i, i < ln l → F (slt fi l) i = pg (40 * l + i) := hR3
  have hC : CR k ad g uns play rd n lat gar T (came, mis, lost, bel, fig, fi, u, z, F) r := hC
  have hM : MR k ad g th uns play rd n lat gar T (came, mis, lost, bel, fig, u, ln, pg) := hM
  have hwf : cWf (fi, u, z, F) := hwf
  have hmw : mWf (u, ln, pg) := hmw
  have hcj : came ≤ 120 * j := hcj
  have hcame : came < 2000000000 := by omega
  have hu20 : u ≤ 20 := hmw.2.1
  have hn120 : n ≤ 120 := hW.2.2.1
  have hrdn : rd ≤ n := hW.2.1
  have hpl9 : play ≤ 9 := hW.1
  have hY : YR (came, mis, lost, bel, fig, fi, u, z, F) (came, mis, lost, bel, fig, u, ln, pg) := ⟨rfl, rfl, rfl, rfl, rfl, hR⟩
  refine lv_aload_n hx hb dL_law_865 rfl (lv_at hl 1 rfl) ?_
  refine lv_aload_n hx hb dL_law_866 rfl (lv_at hl 0 rfl) ?_
  refine lv_iload hx hb dL_law_867 (lv_at hl 4 rfl) ?_
  refine lv_iconst (v := nI 1) hx hb dL_law_869 (by decide) ?_
  refine m_iaddN hx hb dL_law_870 ?_
  refine va_sld hx hb hX hbl hAb hI.2 (vp_in_nI (n := (4 * j) + 1) (by omega) (by omega)) dL_law_871 ?_
  refine m_top (y := xs ((4 * j) + 1)) (by rw [nI_clamp (by omega)]) ?_
  refine lv_aload_n hx hb dL_law_872 rfl (lv_at hl 3 rfl) ?_
  obtain ⟨p0, hp0⟩ : ∃ zz, zz = xs ((4 * j) + 1) := ⟨_, rfl⟩
  refine m_stk (show ([.ref (ad 56), .int (xs ((4 * j) + 1)), .ref (ad 0)] : List Value) = [.ref (ad 56), .int p0, .ref (ad 0)] from by rw [hp0]) ?_
  refine m_callSL (As := [.ref (ad 0), .int p0, .ref (ad 56)]) (rest := []) ⟨hx, hb, hml, hown, hts⟩ hE hI (c_L_wind k l hst ad 57 g _ uns play rd n lat gar T came mis lost bel fig fi u z F r p0 fo (by omega) hW hwf hcame hC h56) (vx_cwSW 3 hts gL_law_L_wind rfl rfl rfl (by decide +kernel) ⟨Nat.le_of_ble_eq_true rfl, Nat.le_of_ble_eq_true rfl⟩) rfl hl.1 rfl (Nat.le_of_ble_eq_true rfl) dL_law_873 ⟨by show 57 + j + 1 ≤ 601024; omega, by show 2023 + 6 * j + 6 ≤ 7293034; omega⟩ (fun r9 g9 H locs hp hI => ?_)
  rcases hp with ⟨hr9, hok0, ⟨fo1, h561, hfo1⟩, hC9, hk9⟩ | ⟨hr9, hba0, hgg⟩
  · subst hr9
    have hM9 : MR k ad g9 th uns play rd n lat gar T (came, mis, lost, bel, fig, u, ln, pg) := MR.kept hM (fun i h1 h2 => hk9 i (by omega) (by omega))
    refine lv_istore (lv' := [(5, .int (nI 0)), (0, .ref b), (1, .ref (ad 0)), (2, .ref (ad 50)), (3, .ref (ad 56)), (4, .int (nI (4 * j)))]) hx hb dL_law_876 hl (by decide) rfl (fun ls hl => ?_)
    refine lv_aload_n hx hb dL_law_878 rfl (lv_at hl 3 rfl) ?_
    refine lv_aload_n hx hb dL_law_879 rfl (lv_at hl 1 rfl) ?_
    refine lv_iload hx hb dL_law_880 (lv_at hl 5 rfl) ?_
    refine lv_iconst (v := nI 1) hx hb dL_law_882 (by decide) ?_
    refine m_iaddN hx hb dL_law_883 ?_
    refine va_sld hx hb hX hbl hAb hI.2 (vp_in_nI (n := (4 * j) + 1) (by omega) (by omega)) dL_law_884 ?_
    refine m_top (y := xs ((4 * j) + 1)) (by rw [nI_clamp (by omega)]) ?_
    refine m_stk (show ([.int (xs ((4 * j) + 1)), .ref (ad 50)] : List Value) = [.int p0, .ref (ad 50)] from by rw [hp0]) ?_
    refine m_callVi (As := [.int p0]) (rest := []) ⟨hx, hb, hml, hown, hts⟩ hE hI (c_X4_wind k l ad 57 g9 _ th uns play rd n lat gar T came mis lost bel fig u ln pg p0 (by omega) hW hmw hcame hM9) (cwV 1 hts gL_law_X4_wind rfl rfl rfl (by decide +kernel) ⟨Nat.le_of_ble_eq_true rfl, Nat.le_of_ble_eq_true rfl⟩) (i := 50) (by omega) hM9.1 rfl rfl hl.1 rfl (Nat.le_of_ble_eq_true rfl) dL_law_885 ⟨by show 57 + j + 1 ≤ 601024; omega, by show 2023 + 6 * j + 6 ≤ 7293034; omega⟩ (fun r9 g4 H locs hp hI => ?_)
    obtain ⟨hp, hk4⟩ := hp
    rcases hp with ⟨hxo0, hr4, hM4⟩ | ⟨hxb0, hM4⟩
    · subst hr4
      have hC4 : CR k ad g4 uns play (tn p0) n lat gar T (came, mis, lost, bel, fig, fi, u, z, F) r := CR.kept hC9 (fun i hi => hk4 i (Or.inl hi))
      have h564 : g4 56 = .inl (k.2.1.2.2, 1, .inr (.inl fo1)) := (hk4 56 (by omega)).trans h561
      have ht0 : tn p0 < n + 1 := inN_tn hok0 (by omega)
      have hW4 : CW play (tn p0) n lat gar T := hW.rd (by omega)
      refine lv_istore (lv' := [(6, .int (nI rd)), (5, .int (nI 0)), (0, .ref b), (1, .ref (ad 0)), (2, .ref (ad 50)), (3, .ref (ad 56)), (4, .int (nI (4 * j)))]) hx hb dL_law_888 hl (by decide) rfl (fun ls hl => ?_)
      refine lv_aload_n hx hb dL_law_890 rfl (lv_at hl 4 rfl) ?_
      refine m_callVi (As := []) (rest := []) ⟨hx, hb, hml, hown, hts⟩ hE hI (c_X4_thrown k l ad 57 g4 _ 0 uns play (tn p0) n lat gar T came mis lost bel fig u ln pg (by omega) hW4 hmw (by omega) hM4) (cwV 0 hts gL_law_X4_thrown rfl rfl rfl (by decide +kernel) ⟨Nat.le_of_ble_eq_true rfl, Nat.le_of_ble_eq_true rfl⟩) (i := 50) (by omega) hM4.1 rfl rfl hl.1 rfl (Nat.le_of_ble_eq_true rfl) dL_law_891 ⟨by show 57 + j + 1 ≤ 601024; omega, by show 2023 + 6 * j + 6 ≤ 7293034; omega⟩ (m_deti (fun H locs hI => ?_))
      refine lv_iload hx hb dL_law_894 (lv_at hl 1 rfl) ?_
      refine m_ceqN (tgt := 901) hx hb (by omega) (by omega) dL_law_896 (by decide) (fun c_896 => ?_) (fun c => absurd c (by decide))
      refine lv_iload hx hb dL_law_901 (lv_at hl 1 rfl) ?_
      refine m_zneN (tgt := 918) hx hb (by omega) dL_law_903 (by decide) (fun c => absurd c (by decide)) (fun c_903 => ?_)
      refine lv_aload_n hx hb dL_law_906 rfl (lv_at hl 5 rfl) ?_
      refine lv_iconst (v := nI 0) hx hb dL_law_907 (by decide) ?_
      refine m_lald hx hb hE hI 56 (by omega) (j := 0) h564 (by omega) (by omega) dL_law_908 ?_
      refine lv_iload hx hb dL_law_909 (lv_at hl 0 rfl) ?_
      refine lv_i2l (v := (nI rd).toInt64) hx hb dL_law_911 rfl ?_
      refine W.lcmp hx hb dL_law_912 ?_
      refine m_top (y := nI 0) (show lg_cmp (fo1 0) ((nI rd).toInt64) = nI 0 from by rw [nI_0]; refine (lg_cmp_eq _ _).mpr ?_; rw [hfo1]) ?_
      refine m_zeqN (tgt := 918) hx hb (by omega) dL_law_913 (by decide) (fun c_913 => ?_) (fun c => absurd c (by decide))
      refine lv_goto (tgt := 1350) hx hb dL_law_918 (by decide) ?_
      refine m_cs (c1 := 57 + (j + 1)) (s1 := 2023 + 6 * (j + 1)) (by omega) (by omega) ?_
      exact K d0 g4 H locs ls hd0 ⟨_, _, _, _, _, _, _, _, _, _, _, hC4, hM4, hY, hW4, hwf, hmw, (by show came ≤ 120 * (j + 1); omega), h564⟩ hI (lv_sub hl [2, 3, 4, 5, 6] rfl)
    · exact absurd (hok0.symm.trans hxb0) (by decide)
  · subst hr9
    rw [hgg] at hI
    refine lv_istore (lv' := [(5, .int (nI 1)), (0, .ref b), (1, .ref (ad 0)), (2, .ref (ad 50)), (3, .ref (ad 56)), (4, .int (nI (4 * j)))]) hx hb dL_law_876 hl (by decide) rfl (fun ls hl => ?_)
    refine lv_aload_n hx hb dL_law_878 rfl (lv_at hl 3 rfl) ?_
    refine lv_aload_n hx hb dL_law_879 rfl (lv_at hl 1 rfl) ?_
    refine lv_iload hx hb dL_law_880 (lv_at hl 5 rfl) ?_
    refine lv_iconst (v := nI 1) hx hb dL_law_882 (by decide) ?_
    refine m_iaddN hx hb dL_law_883 ?_
    refine va_sld hx hb hX hbl hAb hI.2 (vp_in_nI (n := (4 * j) + 1) (by omega) (by omega)) dL_law_884 ?_
    refine m_top (y := xs ((4 * j) + 1)) (by rw [nI_clamp (by omega)]) ?_
    refine m_stk (show ([.int (xs ((4 * j) + 1)), .ref (ad 50)] : List Value) = [.int p0, .ref (ad 50)] from by rw [hp0]) ?_
    refine m_callVi (As := [.int p0]) (rest := []) ⟨hx, hb, hml, hown, hts⟩ hE hI (c_X4_wind k l ad 57 g _ th uns play rd n lat gar T came mis lost bel fig u ln pg p0 (by omega) hW hmw hcame hM) (cwV 1 hts gL_law_X4_wind rfl rfl rfl (by decide +kernel) ⟨Nat.le_of_ble_eq_true rfl, Nat.le_of_ble_eq_true rfl⟩) (i := 50) (by omega) hM.1 rfl rfl hl.1 rfl (Nat.le_of_ble_eq_true rfl) dL_law_885 ⟨by show 57 + j + 1 ≤ 601024; omega, by show 2023 + 6 * j + 6 ≤ 7293034; omega⟩ (fun r9 g4 H locs hp hI => ?_)
    obtain ⟨hp, hk4⟩ := hp
    rcases hp with ⟨hxo0, hr4, hM4⟩ | ⟨hxb0, hM4⟩
    · exact absurd (hxo0.symm.trans hba0) (by decide)
    · refine lv_istore (lv' := [(6, .int r9), (5, .int (nI 1)), (0, .ref b), (1, .ref (ad 0)), (2, .ref (ad 50)), (3, .ref (ad 56)), (4, .int (nI (4 * j)))]) hx hb dL_law_888 hl (by decide) rfl (fun ls hl => ?_)
      refine lv_aload_n hx hb dL_law_890 rfl (lv_at hl 4 rfl) ?_
      refine m_callVi (As := []) (rest := []) ⟨hx, hb, hml, hown, hts⟩ hE hI (c_X4_thrown k l ad 57 g4 _ 1 uns play rd n lat gar T came mis lost bel fig u ln pg (by omega) hW hmw (by omega) hM4) (cwV 0 hts gL_law_X4_thrown rfl rfl rfl (by decide +kernel) ⟨Nat.le_of_ble_eq_true rfl, Nat.le_of_ble_eq_true rfl⟩) (i := 50) (by omega) hM4.1 rfl rfl hl.1 rfl (Nat.le_of_ble_eq_true rfl) dL_law_891 ⟨by show 57 + j + 1 ≤ 601024; omega, by show 2023 + 6 * j + 6 ≤ 7293034; omega⟩ (m_deti (fun H locs hI => ?_))
      refine lv_iload hx hb dL_law_894 (lv_at hl 1 rfl) ?_
      refine m_ceqN (tgt := 901) hx hb (by omega) (by omega) dL_law_896 (by decide) (fun c_896 => ?_) (fun c => absurd c (by decide))
      refine lv_iload hx hb dL_law_901 (lv_at hl 1 rfl) ?_
      refine m_zneN (tgt := 918) hx hb (by omega) dL_law_903 (by decide) (fun c_903 => ?_) (fun c => absurd c (by decide))
      refine lv_goto (tgt := 1350) hx hb dL_law_918 (by decide) ?_
      refine m_cs (c1 := 57 + (j + 1)) (s1 := 2023 + 6 * (j + 1)) (by omega) (by omega) ?_
      exact K d0 g4 H locs ls hd0 ⟨_, _, _, _, _, _, _, _, _, _, _, CR.kept hC (fun i hi => hk4 i (Or.inl hi)), hM4, hY, hW, hwf, hmw, (by show came ≤ 120 * (j + 1); omega), (hk4 56 (by omega)).trans h56⟩ hI (lv_sub hl [2, 3, 4, 5, 6] rfl)
set_option maxHeartbeats 8000000 in
set_option maxRecDepth 100000 in
theorem st_tape {p : Program} {l : Launch} {e : Env} {s : State} {m : MethodId} {below : List Frame} {meth : Method} {c : Code} {b L : Nat} {xs : Nat → Int32} {Q : State → Prop} {k : mC} {A : Nat → Prop} {ad : Nat → Nat} {r : Nat → Option Nat} {j : Nat} (C0 : LC p l s m meth c b L xs k A ad j) {d0 : Drawn} (hd0 : s.drawn.sameBut d0 lw_cs) {g : Nat → va_E} {H : Heap} {locs : List Loc} {ls : Array Slot} (hI : mI k ad 57 g A s H locs) (hl : lv_has ls 9 [(0, .ref b), (1, .ref (ad 0)), (2, .ref (ad 50)), (3, .ref (ad 56)), (4, .int (nI (4 * j)))]) (hLI : LI k ad g r j) (K : LK p l e s m below meth c b Q k A ad r j) : W p l e room_1 (s.setDrawn d0) m #[Value.ref b] below meth c H locs (57 + j) (2023 + 6 * j) Q (F0 m 921 ls []) := by
  obtain ⟨hx, hb, hml, hown, htsL, hst, hX, hbl, hAb, hEd, hL, hj4⟩ := C0
  have hts := dr_words htsL d0
  have hE := hEd d0
  have hX : va_X b L xs (s.setDrawn d0) s.heap := hX
  obtain ⟨uns, play, rd, n, lat, gar, T, ⟨came, mis, lost, bel, fig, fi, u, z, F⟩, ⟨came', mis', lost', bel', fig', u', ln, pg⟩, th, fo, hC, hM, ⟨e1, e2, e3, e4, e5, e6, hR2, hR3⟩, hW, hwf, hmw, hcj, h56⟩ := hLI
  have f1 : came = came' := e1
  have f2 : mis = mis' := e2
  have f3 : lost = lost' := e3
  have f4 : bel = bel' := e4
  have f5 : fig = fig' := e5
  have f6 : u = u' := Eq.symm e6
  clear e1 e2 e3 e4 e5 e6
  subst f1 f2 f3 f4 f5 f6
  have hR : PgR (fi, u, z, F) (u, ln, pg) := ⟨rfl, hR2, hR3⟩
  have hR2 : ∀ l, l < u → z (slt fi l) = ln l := hR2
  have hR3 : ∀ l, l < u → ∀ i, i < ln l → F (slt fi l) i = pg (40 * l + i) := hR3
  have hC : CR k ad g uns play rd n lat gar T (came, mis, lost, bel, fig, fi, u, z, F) r := hC
  have hM : MR k ad g th uns play rd n lat gar T (came, mis, lost, bel, fig, u, ln, pg) := hM
  have hwf : cWf (fi, u, z, F) := hwf
  have hmw : mWf (u, ln, pg) := hmw
  have hcj : came ≤ 120 * j := hcj
  have hcame : came < 2000000000 := by omega
  have hu20 : u ≤ 20 := hmw.2.1
  have hn120 : n ≤ 120 := hW.2.2.1
  have hrdn : rd ≤ n := hW.2.1
  have hpl9 : play ≤ 9 := hW.1
  have hY : YR (came, mis, lost, bel, fig, fi, u, z, F) (came, mis, lost, bel, fig, u, ln, pg) := ⟨rfl, rfl, rfl, rfl, rfl, hR⟩
  refine lv_aload_n hx hb dL_law_921 rfl (lv_at hl 1 rfl) ?_
  refine lv_aload_n hx hb dL_law_922 rfl (lv_at hl 0 rfl) ?_
  refine lv_iload hx hb dL_law_923 (lv_at hl 4 rfl) ?_
  refine lv_iconst (v := nI 1) hx hb dL_law_925 (by decide) ?_
  refine m_iaddN hx hb dL_law_926 ?_
  refine va_sld hx hb hX hbl hAb hI.2 (vp_in_nI (n := (4 * j) + 1) (by omega) (by omega)) dL_law_927 ?_
  refine m_top (y := xs ((4 * j) + 1)) (by rw [nI_clamp (by omega)]) ?_
  refine lv_aload_n hx hb dL_law_928 rfl (lv_at hl 3 rfl) ?_
  obtain ⟨p0, hp0⟩ : ∃ zz, zz = xs ((4 * j) + 1) := ⟨_, rfl⟩
  refine m_stk (show ([.ref (ad 56), .int (xs ((4 * j) + 1)), .ref (ad 0)] : List Value) = [.ref (ad 56), .int p0, .ref (ad 0)] from by rw [hp0]) ?_
  refine m_callSL (As := [.ref (ad 0), .int p0, .ref (ad 56)]) (rest := []) ⟨hx, hb, hml, hown, hts⟩ hE hI (c_L_tape k l hst ad 57 g _ uns play rd n lat gar T came mis lost bel fig fi u z F r p0 fo (by omega) hW hwf hcame hC h56) (vx_cwSW 3 hts gL_law_L_tape rfl rfl rfl (by decide +kernel) ⟨Nat.le_of_ble_eq_true rfl, Nat.le_of_ble_eq_true rfl⟩) rfl hl.1 rfl (Nat.le_of_ble_eq_true rfl) dL_law_929 ⟨by show 57 + j + 1 ≤ 601024; omega, by show 2023 + 6 * j + 6 ≤ 7293034; omega⟩ (fun r9 g9 H locs hp hI => ?_)
  rcases hp with ⟨hr9, hok0, ⟨fo1, h561, hfo1⟩, hC9, hk9⟩ | ⟨hr9, hba0, hgg⟩
  · subst hr9
    have hM9 : MR k ad g9 th uns play rd n lat gar T (came, mis, lost, bel, fig, u, ln, pg) := MR.kept hM (fun i h1 h2 => hk9 i (by omega) (by omega))
    refine lv_istore (lv' := [(5, .int (nI 0)), (0, .ref b), (1, .ref (ad 0)), (2, .ref (ad 50)), (3, .ref (ad 56)), (4, .int (nI (4 * j)))]) hx hb dL_law_932 hl (by decide) rfl (fun ls hl => ?_)
    refine lv_aload_n hx hb dL_law_934 rfl (lv_at hl 3 rfl) ?_
    refine lv_aload_n hx hb dL_law_935 rfl (lv_at hl 1 rfl) ?_
    refine lv_iload hx hb dL_law_936 (lv_at hl 5 rfl) ?_
    refine lv_iconst (v := nI 1) hx hb dL_law_938 (by decide) ?_
    refine m_iaddN hx hb dL_law_939 ?_
    refine va_sld hx hb hX hbl hAb hI.2 (vp_in_nI (n := (4 * j) + 1) (by omega) (by omega)) dL_law_940 ?_
    refine m_top (y := xs ((4 * j) + 1)) (by rw [nI_clamp (by omega)]) ?_
    refine m_stk (show ([.int (xs ((4 * j) + 1)), .ref (ad 50)] : List Value) = [.int p0, .ref (ad 50)] from by rw [hp0]) ?_
    refine m_callVi (As := [.int p0]) (rest := []) ⟨hx, hb, hml, hown, hts⟩ hE hI (c_X4_tape k l ad 57 g9 _ th uns play rd n lat gar T came mis lost bel fig u ln pg p0 (by omega) hW hmw hcame hM9) (cwV 1 hts gL_law_X4_tape rfl rfl rfl (by decide +kernel) ⟨Nat.le_of_ble_eq_true rfl, Nat.le_of_ble_eq_true rfl⟩) (i := 50) (by omega) hM9.1 rfl rfl hl.1 rfl (Nat.le_of_ble_eq_true rfl) dL_law_941 ⟨by show 57 + j + 1 ≤ 601024; omega, by show 2023 + 6 * j + 6 ≤ 7293034; omega⟩ (fun r9 g4 H locs hp hI => ?_)
    obtain ⟨hp, hk4⟩ := hp
    rcases hp with ⟨hxo0, hr4, hM4⟩ | ⟨hxb0, hM4⟩
    · subst hr4
      have hC4 : CR k ad g4 uns play rd n lat gar T (came, mis, lost, bel, fig, fi, u, z, F) r := CR.kept hC9 (fun i hi => hk4 i (Or.inl hi))
      have h564 : g4 56 = .inl (k.2.1.2.2, 1, .inr (.inl fo1)) := (hk4 56 (by omega)).trans h561
      have hW4 : CW play rd n lat gar T := hW
      refine lv_istore (lv' := [(6, .int (nI (T (tn p0)))), (5, .int (nI 0)), (0, .ref b), (1, .ref (ad 0)), (2, .ref (ad 50)), (3, .ref (ad 56)), (4, .int (nI (4 * j)))]) hx hb dL_law_944 hl (by decide) rfl (fun ls hl => ?_)
      refine lv_aload_n hx hb dL_law_946 rfl (lv_at hl 4 rfl) ?_
      refine m_callVi (As := []) (rest := []) ⟨hx, hb, hml, hown, hts⟩ hE hI (c_X4_thrown k l ad 57 g4 _ 0 uns play rd n lat gar T came mis lost bel fig u ln pg (by omega) hW4 hmw (by omega) hM4) (cwV 0 hts gL_law_X4_thrown rfl rfl rfl (by decide +kernel) ⟨Nat.le_of_ble_eq_true rfl, Nat.le_of_ble_eq_true rfl⟩) (i := 50) (by omega) hM4.1 rfl rfl hl.1 rfl (Nat.le_of_ble_eq_true rfl) dL_law_947 ⟨by show 57 + j + 1 ≤ 601024; omega, by show 2023 + 6 * j + 6 ≤ 7293034; omega⟩ (m_deti (fun H locs hI => ?_))
      refine lv_iload hx hb dL_law_950 (lv_at hl 1 rfl) ?_
      refine m_ceqN (tgt := 957) hx hb (by omega) (by omega) dL_law_952 (by decide) (fun c_952 => ?_) (fun c => absurd c (by decide))
      refine lv_iload hx hb dL_law_957 (lv_at hl 1 rfl) ?_
      refine m_zneN (tgt := 974) hx hb (by omega) dL_law_959 (by decide) (fun c => absurd c (by decide)) (fun c_959 => ?_)
      refine lv_aload_n hx hb dL_law_962 rfl (lv_at hl 5 rfl) ?_
      refine lv_iconst (v := nI 0) hx hb dL_law_963 (by decide) ?_
      refine m_lald hx hb hE hI 56 (by omega) (j := 0) h564 (by omega) (by omega) dL_law_964 ?_
      refine lv_iload hx hb dL_law_965 (lv_at hl 0 rfl) ?_
      refine lv_i2l (v := (nI (T (tn p0))).toInt64) hx hb dL_law_967 rfl ?_
      refine W.lcmp hx hb dL_law_968 ?_
      refine m_top (y := nI 0) (show lg_cmp (fo1 0) ((nI (T (tn p0))).toInt64) = nI 0 from by rw [nI_0]; refine (lg_cmp_eq _ _).mpr ?_; rw [hfo1]) ?_
      refine m_zeqN (tgt := 974) hx hb (by omega) dL_law_969 (by decide) (fun c_969 => ?_) (fun c => absurd c (by decide))
      refine lv_goto (tgt := 1350) hx hb dL_law_974 (by decide) ?_
      refine m_cs (c1 := 57 + (j + 1)) (s1 := 2023 + 6 * (j + 1)) (by omega) (by omega) ?_
      exact K d0 g4 H locs ls hd0 ⟨_, _, _, _, _, _, _, _, _, _, _, hC4, hM4, hY, hW4, hwf, hmw, (by show came ≤ 120 * (j + 1); omega), h564⟩ hI (lv_sub hl [2, 3, 4, 5, 6] rfl)
    · exact absurd (hok0.symm.trans hxb0) (by decide)
  · subst hr9
    rw [hgg] at hI
    refine lv_istore (lv' := [(5, .int (nI 1)), (0, .ref b), (1, .ref (ad 0)), (2, .ref (ad 50)), (3, .ref (ad 56)), (4, .int (nI (4 * j)))]) hx hb dL_law_932 hl (by decide) rfl (fun ls hl => ?_)
    refine lv_aload_n hx hb dL_law_934 rfl (lv_at hl 3 rfl) ?_
    refine lv_aload_n hx hb dL_law_935 rfl (lv_at hl 1 rfl) ?_
    refine lv_iload hx hb dL_law_936 (lv_at hl 5 rfl) ?_
    refine lv_iconst (v := nI 1) hx hb dL_law_938 (by decide) ?_
    refine m_iaddN hx hb dL_law_939 ?_
    refine va_sld hx hb hX hbl hAb hI.2 (vp_in_nI (n := (4 * j) + 1) (by omega) (by omega)) dL_law_940 ?_
    refine m_top (y := xs ((4 * j) + 1)) (by rw [nI_clamp (by omega)]) ?_
    refine m_stk (show ([.int (xs ((4 * j) + 1)), .ref (ad 50)] : List Value) = [.int p0, .ref (ad 50)] from by rw [hp0]) ?_
    refine m_callVi (As := [.int p0]) (rest := []) ⟨hx, hb, hml, hown, hts⟩ hE hI (c_X4_tape k l ad 57 g _ th uns play rd n lat gar T came mis lost bel fig u ln pg p0 (by omega) hW hmw hcame hM) (cwV 1 hts gL_law_X4_tape rfl rfl rfl (by decide +kernel) ⟨Nat.le_of_ble_eq_true rfl, Nat.le_of_ble_eq_true rfl⟩) (i := 50) (by omega) hM.1 rfl rfl hl.1 rfl (Nat.le_of_ble_eq_true rfl) dL_law_941 ⟨by show 57 + j + 1 ≤ 601024; omega, by show 2023 + 6 * j + 6 ≤ 7293034; omega⟩ (fun r9 g4 H locs hp hI => ?_)
    obtain ⟨hp, hk4⟩ := hp
    rcases hp with ⟨hxo0, hr4, hM4⟩ | ⟨hxb0, hM4⟩
    · exact absurd (hxo0.symm.trans hba0) (by decide)
    · refine lv_istore (lv' := [(6, .int r9), (5, .int (nI 1)), (0, .ref b), (1, .ref (ad 0)), (2, .ref (ad 50)), (3, .ref (ad 56)), (4, .int (nI (4 * j)))]) hx hb dL_law_944 hl (by decide) rfl (fun ls hl => ?_)
      refine lv_aload_n hx hb dL_law_946 rfl (lv_at hl 4 rfl) ?_
      refine m_callVi (As := []) (rest := []) ⟨hx, hb, hml, hown, hts⟩ hE hI (c_X4_thrown k l ad 57 g4 _ 1 uns play rd n lat gar T came mis lost bel fig u ln pg (by omega) hW hmw (by omega) hM4) (cwV 0 hts gL_law_X4_thrown rfl rfl rfl (by decide +kernel) ⟨Nat.le_of_ble_eq_true rfl, Nat.le_of_ble_eq_true rfl⟩) (i := 50) (by omega) hM4.1 rfl rfl hl.1 rfl (Nat.le_of_ble_eq_true rfl) dL_law_947 ⟨by show 57 + j + 1 ≤ 601024; omega, by show 2023 + 6 * j + 6 ≤ 7293034; omega⟩ (m_deti (fun H locs hI => ?_))
      refine lv_iload hx hb dL_law_950 (lv_at hl 1 rfl) ?_
      refine m_ceqN (tgt := 957) hx hb (by omega) (by omega) dL_law_952 (by decide) (fun c_952 => ?_) (fun c => absurd c (by decide))
      refine lv_iload hx hb dL_law_957 (lv_at hl 1 rfl) ?_
      refine m_zneN (tgt := 974) hx hb (by omega) dL_law_959 (by decide) (fun c_959 => ?_) (fun c => absurd c (by decide))
      refine lv_goto (tgt := 1350) hx hb dL_law_974 (by decide) ?_
      refine m_cs (c1 := 57 + (j + 1)) (s1 := 2023 + 6 * (j + 1)) (by omega) (by omega) ?_
      exact K d0 g4 H locs ls hd0 ⟨_, _, _, _, _, _, _, _, _, _, _, CR.kept hC (fun i hi => hk4 i (Or.inl hi)), hM4, hY, hW, hwf, hmw, (by show came ≤ 120 * (j + 1); omega), (hk4 56 (by omega)).trans h56⟩ hI (lv_sub hl [2, 3, 4, 5, 6] rfl)
set_option maxHeartbeats 8000000 in
set_option maxRecDepth 100000 in
theorem st_page {p : Program} {l : Launch} {e : Env} {s : State} {m : MethodId} {below : List Frame} {meth : Method} {c : Code} {b L : Nat} {xs : Nat → Int32} {Q : State → Prop} {k : mC} {A : Nat → Prop} {ad : Nat → Nat} {r : Nat → Option Nat} {j : Nat} (C0 : LC p l s m meth c b L xs k A ad j) {d0 : Drawn} (hd0 : s.drawn.sameBut d0 lw_cs) {g : Nat → va_E} {H : Heap} {locs : List Loc} {ls : Array Slot} (hI : mI k ad 57 g A s H locs) (hl : lv_has ls 9 [(0, .ref b), (1, .ref (ad 0)), (2, .ref (ad 50)), (3, .ref (ad 56)), (4, .int (nI (4 * j)))]) (hLI : LI k ad g r j) (K : LK p l e s m below meth c b Q k A ad r j) : W p l e room_1 (s.setDrawn d0) m #[Value.ref b] below meth c H locs (57 + j) (2023 + 6 * j) Q (F0 m 977 ls []) := by
  obtain ⟨hx, hb, hml, hown, htsL, hst, hX, hbl, hAb, hEd, hL, hj4⟩ := C0
  have hts := dr_words htsL d0
  have hE := hEd d0
  have hX : va_X b L xs (s.setDrawn d0) s.heap := hX
  obtain ⟨uns, play, rd, n, lat, gar, T, ⟨came, mis, lost, bel, fig, fi, u, z, F⟩, ⟨came', mis', lost', bel', fig', u', ln, pg⟩, th, fo, hC, hM, ⟨e1, e2, e3, e4, e5, e6, hR2, hR3⟩, hW, hwf, hmw, hcj, h56⟩ := hLI
  have f1 : came = came' := e1
  have f2 : mis = mis' := e2
  have f3 : lost = lost' := e3
  have f4 : bel = bel' := e4
  have f5 : fig = fig' := e5
  have f6 : u = u' := Eq.symm e6
  clear e1 e2 e3 e4 e5 e6
  subst f1 f2 f3 f4 f5 f6
  have hR : PgR (fi, u, z, F) (u, ln, pg) := ⟨rfl, hR2, hR3⟩
  have hR2 : ∀ l, l < u → z (slt fi l) = ln l := hR2
  have hR3 : ∀ l, l < u → ∀ i, i < ln l → F (slt fi l) i = pg (40 * l + i) := hR3
  have hC : CR k ad g uns play rd n lat gar T (came, mis, lost, bel, fig, fi, u, z, F) r := hC
  have hM : MR k ad g th uns play rd n lat gar T (came, mis, lost, bel, fig, u, ln, pg) := hM
  have hwf : cWf (fi, u, z, F) := hwf
  have hmw : mWf (u, ln, pg) := hmw
  have hcj : came ≤ 120 * j := hcj
  have hcame : came < 2000000000 := by omega
  have hu20 : u ≤ 20 := hmw.2.1
  have hn120 : n ≤ 120 := hW.2.2.1
  have hrdn : rd ≤ n := hW.2.1
  have hpl9 : play ≤ 9 := hW.1
  have hY : YR (came, mis, lost, bel, fig, fi, u, z, F) (came, mis, lost, bel, fig, u, ln, pg) := ⟨rfl, rfl, rfl, rfl, rfl, hR⟩
  refine lv_aload_n hx hb dL_law_977 rfl (lv_at hl 1 rfl) ?_
  refine lv_aload_n hx hb dL_law_978 rfl (lv_at hl 0 rfl) ?_
  refine lv_iload hx hb dL_law_979 (lv_at hl 4 rfl) ?_
  refine lv_iconst (v := nI 1) hx hb dL_law_981 (by decide) ?_
  refine m_iaddN hx hb dL_law_982 ?_
  refine va_sld hx hb hX hbl hAb hI.2 (vp_in_nI (n := (4 * j) + 1) (by omega) (by omega)) dL_law_983 ?_
  refine m_top (y := xs ((4 * j) + 1)) (by rw [nI_clamp (by omega)]) ?_
  refine lv_aload_n hx hb dL_law_984 rfl (lv_at hl 0 rfl) ?_
  refine lv_iload hx hb dL_law_985 (lv_at hl 4 rfl) ?_
  refine lv_iconst (v := nI 2) hx hb dL_law_987 (by decide) ?_
  refine m_iaddN hx hb dL_law_988 ?_
  refine va_sld hx hb hX hbl hAb hI.2 (vp_in_nI (n := (4 * j) + 2) (by omega) (by omega)) dL_law_989 ?_
  refine m_top (y := xs ((4 * j) + 2)) (by rw [nI_clamp (by omega)]) ?_
  refine lv_aload_n hx hb dL_law_990 rfl (lv_at hl 3 rfl) ?_
  obtain ⟨p0, hp0⟩ : ∃ zz, zz = xs ((4 * j) + 1) := ⟨_, rfl⟩
  obtain ⟨p1, hp1⟩ : ∃ zz, zz = xs ((4 * j) + 2) := ⟨_, rfl⟩
  refine m_stk (show ([.ref (ad 56), .int (xs ((4 * j) + 2)), .int (xs ((4 * j) + 1)), .ref (ad 0)] : List Value) = [.ref (ad 56), .int p1, .int p0, .ref (ad 0)] from by rw [hp0, hp1]) ?_
  refine m_callSL (As := [.ref (ad 0), .int p0, .int p1, .ref (ad 56)]) (rest := []) ⟨hx, hb, hml, hown, hts⟩ hE hI (c_L_page k l hst ad 57 g _ uns play rd n lat gar T came mis lost bel fig fi u z F r p0 p1 fo (by omega) hW hwf hcame hC h56) (vx_cwSW 4 hts gL_law_L_page rfl rfl rfl (by decide +kernel) ⟨Nat.le_of_ble_eq_true rfl, Nat.le_of_ble_eq_true rfl⟩) rfl hl.1 rfl (Nat.le_of_ble_eq_true rfl) dL_law_991 ⟨by show 57 + j + 1 ≤ 601024; omega, by show 2023 + 6 * j + 6 ≤ 7293034; omega⟩ (fun r9 g9 H locs hp hI => ?_)
  rcases hp with ⟨hr9, hok0, ⟨fo1, h561, hfo1⟩, hC9, hk9⟩ | ⟨hr9, hba0, hgg⟩
  · subst hr9
    rw [PgR_page hR hu20] at hok0
    have hM9 : MR k ad g9 th uns play rd n lat gar T (came, mis, lost, bel, fig, u, ln, pg) := MR.kept hM (fun i h1 h2 => hk9 i (by omega) (by omega))
    refine lv_istore (lv' := [(5, .int (nI 0)), (0, .ref b), (1, .ref (ad 0)), (2, .ref (ad 50)), (3, .ref (ad 56)), (4, .int (nI (4 * j)))]) hx hb dL_law_994 hl (by decide) rfl (fun ls hl => ?_)
    refine lv_aload_n hx hb dL_law_996 rfl (lv_at hl 3 rfl) ?_
    refine lv_aload_n hx hb dL_law_997 rfl (lv_at hl 1 rfl) ?_
    refine lv_iload hx hb dL_law_998 (lv_at hl 5 rfl) ?_
    refine lv_iconst (v := nI 1) hx hb dL_law_1000 (by decide) ?_
    refine m_iaddN hx hb dL_law_1001 ?_
    refine va_sld hx hb hX hbl hAb hI.2 (vp_in_nI (n := (4 * j) + 1) (by omega) (by omega)) dL_law_1002 ?_
    refine m_top (y := xs ((4 * j) + 1)) (by rw [nI_clamp (by omega)]) ?_
    refine lv_aload_n hx hb dL_law_1003 rfl (lv_at hl 1 rfl) ?_
    refine lv_iload hx hb dL_law_1004 (lv_at hl 5 rfl) ?_
    refine lv_iconst (v := nI 2) hx hb dL_law_1006 (by decide) ?_
    refine m_iaddN hx hb dL_law_1007 ?_
    refine va_sld hx hb hX hbl hAb hI.2 (vp_in_nI (n := (4 * j) + 2) (by omega) (by omega)) dL_law_1008 ?_
    refine m_top (y := xs ((4 * j) + 2)) (by rw [nI_clamp (by omega)]) ?_
    refine m_stk (show ([.int (xs ((4 * j) + 2)), .int (xs ((4 * j) + 1)), .ref (ad 50)] : List Value) = [.int p1, .int p0, .ref (ad 50)] from by rw [hp0, hp1]) ?_
    refine m_callVi (As := [.int p0, .int p1]) (rest := []) ⟨hx, hb, hml, hown, hts⟩ hE hI (c_X4_page k l ad 57 g9 _ th uns play rd n lat gar T came mis lost bel fig u ln pg p0 p1 (by omega) hW hmw hcame hM9) (cwV 2 hts gL_law_X4_page rfl rfl rfl (by decide +kernel) ⟨Nat.le_of_ble_eq_true rfl, Nat.le_of_ble_eq_true rfl⟩) (i := 50) (by omega) hM9.1 rfl rfl hl.1 rfl (Nat.le_of_ble_eq_true rfl) dL_law_1009 ⟨by show 57 + j + 1 ≤ 601024; omega, by show 2023 + 6 * j + 6 ≤ 7293034; omega⟩ (fun r9 g4 H locs hp hI => ?_)
    obtain ⟨hp, hk4⟩ := hp
    rcases hp with ⟨hxo0, hr4, hM4⟩ | ⟨hxb0, hM4⟩
    · subst hr4
      have hC4 : CR k ad g4 uns play rd n lat gar T (came, mis, lost, bel, fig, fi, u, z, F) r := CR.kept hC9 (fun i hi => hk4 i (Or.inl hi))
      have h564 : g4 56 = .inl (k.2.1.2.2, 1, .inr (.inl fo1)) := (hk4 56 (by omega)).trans h561
      have hW4 : CW play rd n lat gar T := hW
      refine lv_istore (lv' := [(6, .int (nI (pg (40 * tn p0 + tn p1)))), (5, .int (nI 0)), (0, .ref b), (1, .ref (ad 0)), (2, .ref (ad 50)), (3, .ref (ad 56)), (4, .int (nI (4 * j)))]) hx hb dL_law_1012 hl (by decide) rfl (fun ls hl => ?_)
      refine lv_aload_n hx hb dL_law_1014 rfl (lv_at hl 4 rfl) ?_
      refine m_callVi (As := []) (rest := []) ⟨hx, hb, hml, hown, hts⟩ hE hI (c_X4_thrown k l ad 57 g4 _ 0 uns play rd n lat gar T came mis lost bel fig u ln pg (by omega) hW4 hmw (by omega) hM4) (cwV 0 hts gL_law_X4_thrown rfl rfl rfl (by decide +kernel) ⟨Nat.le_of_ble_eq_true rfl, Nat.le_of_ble_eq_true rfl⟩) (i := 50) (by omega) hM4.1 rfl rfl hl.1 rfl (Nat.le_of_ble_eq_true rfl) dL_law_1015 ⟨by show 57 + j + 1 ≤ 601024; omega, by show 2023 + 6 * j + 6 ≤ 7293034; omega⟩ (m_deti (fun H locs hI => ?_))
      refine lv_iload hx hb dL_law_1018 (lv_at hl 1 rfl) ?_
      refine m_ceqN (tgt := 1025) hx hb (by omega) (by omega) dL_law_1020 (by decide) (fun c_1020 => ?_) (fun c => absurd c (by decide))
      refine lv_iload hx hb dL_law_1025 (lv_at hl 1 rfl) ?_
      refine m_zneN (tgt := 1042) hx hb (by omega) dL_law_1027 (by decide) (fun c => absurd c (by decide)) (fun c_1027 => ?_)
      refine lv_aload_n hx hb dL_law_1030 rfl (lv_at hl 5 rfl) ?_
      refine lv_iconst (v := nI 0) hx hb dL_law_1031 (by decide) ?_
      refine m_lald hx hb hE hI 56 (by omega) (j := 0) h564 (by omega) (by omega) dL_law_1032 ?_
      refine lv_iload hx hb dL_law_1033 (lv_at hl 0 rfl) ?_
      refine lv_i2l (v := (nI (pg (40 * tn p0 + tn p1))).toInt64) hx hb dL_law_1035 rfl ?_
      refine W.lcmp hx hb dL_law_1036 ?_
      refine m_top (y := nI 0) (show lg_cmp (fo1 0) ((nI (pg (40 * tn p0 + tn p1))).toInt64) = nI 0 from by rw [nI_0]; refine (lg_cmp_eq _ _).mpr ?_; rw [hfo1, show F (slt fi (tn p0)) (tn p1) = pg (40 * tn p0 + tn p1) from PgR_at hR hu20 hmw hok0]) ?_
      refine m_zeqN (tgt := 1042) hx hb (by omega) dL_law_1037 (by decide) (fun c_1037 => ?_) (fun c => absurd c (by decide))
      refine lv_goto (tgt := 1350) hx hb dL_law_1042 (by decide) ?_
      refine m_cs (c1 := 57 + (j + 1)) (s1 := 2023 + 6 * (j + 1)) (by omega) (by omega) ?_
      exact K d0 g4 H locs ls hd0 ⟨_, _, _, _, _, _, _, _, _, _, _, hC4, hM4, hY, hW4, hwf, hmw, (by show came ≤ 120 * (j + 1); omega), h564⟩ hI (lv_sub hl [2, 3, 4, 5, 6] rfl)
    · exact absurd (hok0.symm.trans hxb0) (by decide)
  · subst hr9
    rw [PgR_page hR hu20] at hba0
    rw [hgg] at hI
    refine lv_istore (lv' := [(5, .int (nI 1)), (0, .ref b), (1, .ref (ad 0)), (2, .ref (ad 50)), (3, .ref (ad 56)), (4, .int (nI (4 * j)))]) hx hb dL_law_994 hl (by decide) rfl (fun ls hl => ?_)
    refine lv_aload_n hx hb dL_law_996 rfl (lv_at hl 3 rfl) ?_
    refine lv_aload_n hx hb dL_law_997 rfl (lv_at hl 1 rfl) ?_
    refine lv_iload hx hb dL_law_998 (lv_at hl 5 rfl) ?_
    refine lv_iconst (v := nI 1) hx hb dL_law_1000 (by decide) ?_
    refine m_iaddN hx hb dL_law_1001 ?_
    refine va_sld hx hb hX hbl hAb hI.2 (vp_in_nI (n := (4 * j) + 1) (by omega) (by omega)) dL_law_1002 ?_
    refine m_top (y := xs ((4 * j) + 1)) (by rw [nI_clamp (by omega)]) ?_
    refine lv_aload_n hx hb dL_law_1003 rfl (lv_at hl 1 rfl) ?_
    refine lv_iload hx hb dL_law_1004 (lv_at hl 5 rfl) ?_
    refine lv_iconst (v := nI 2) hx hb dL_law_1006 (by decide) ?_
    refine m_iaddN hx hb dL_law_1007 ?_
    refine va_sld hx hb hX hbl hAb hI.2 (vp_in_nI (n := (4 * j) + 2) (by omega) (by omega)) dL_law_1008 ?_
    refine m_top (y := xs ((4 * j) + 2)) (by rw [nI_clamp (by omega)]) ?_
    refine m_stk (show ([.int (xs ((4 * j) + 2)), .int (xs ((4 * j) + 1)), .ref (ad 50)] : List Value) = [.int p1, .int p0, .ref (ad 50)] from by rw [hp0, hp1]) ?_
    refine m_callVi (As := [.int p0, .int p1]) (rest := []) ⟨hx, hb, hml, hown, hts⟩ hE hI (c_X4_page k l ad 57 g _ th uns play rd n lat gar T came mis lost bel fig u ln pg p0 p1 (by omega) hW hmw hcame hM) (cwV 2 hts gL_law_X4_page rfl rfl rfl (by decide +kernel) ⟨Nat.le_of_ble_eq_true rfl, Nat.le_of_ble_eq_true rfl⟩) (i := 50) (by omega) hM.1 rfl rfl hl.1 rfl (Nat.le_of_ble_eq_true rfl) dL_law_1009 ⟨by show 57 + j + 1 ≤ 601024; omega, by show 2023 + 6 * j + 6 ≤ 7293034; omega⟩ (fun r9 g4 H locs hp hI => ?_)
    obtain ⟨hp, hk4⟩ := hp
    rcases hp with ⟨hxo0, hr4, hM4⟩ | ⟨hxb0, hM4⟩
    · exact absurd (hxo0.symm.trans hba0) (by decide)
    · refine lv_istore (lv' := [(6, .int r9), (5, .int (nI 1)), (0, .ref b), (1, .ref (ad 0)), (2, .ref (ad 50)), (3, .ref (ad 56)), (4, .int (nI (4 * j)))]) hx hb dL_law_1012 hl (by decide) rfl (fun ls hl => ?_)
      refine lv_aload_n hx hb dL_law_1014 rfl (lv_at hl 4 rfl) ?_
      refine m_callVi (As := []) (rest := []) ⟨hx, hb, hml, hown, hts⟩ hE hI (c_X4_thrown k l ad 57 g4 _ 1 uns play rd n lat gar T came mis lost bel fig u ln pg (by omega) hW hmw (by omega) hM4) (cwV 0 hts gL_law_X4_thrown rfl rfl rfl (by decide +kernel) ⟨Nat.le_of_ble_eq_true rfl, Nat.le_of_ble_eq_true rfl⟩) (i := 50) (by omega) hM4.1 rfl rfl hl.1 rfl (Nat.le_of_ble_eq_true rfl) dL_law_1015 ⟨by show 57 + j + 1 ≤ 601024; omega, by show 2023 + 6 * j + 6 ≤ 7293034; omega⟩ (m_deti (fun H locs hI => ?_))
      refine lv_iload hx hb dL_law_1018 (lv_at hl 1 rfl) ?_
      refine m_ceqN (tgt := 1025) hx hb (by omega) (by omega) dL_law_1020 (by decide) (fun c_1020 => ?_) (fun c => absurd c (by decide))
      refine lv_iload hx hb dL_law_1025 (lv_at hl 1 rfl) ?_
      refine m_zneN (tgt := 1042) hx hb (by omega) dL_law_1027 (by decide) (fun c_1027 => ?_) (fun c => absurd c (by decide))
      refine lv_goto (tgt := 1350) hx hb dL_law_1042 (by decide) ?_
      refine m_cs (c1 := 57 + (j + 1)) (s1 := 2023 + 6 * (j + 1)) (by omega) (by omega) ?_
      exact K d0 g4 H locs ls hd0 ⟨_, _, _, _, _, _, _, _, _, _, _, CR.kept hC (fun i hi => hk4 i (Or.inl hi)), hM4, hY, hW, hwf, hmw, (by show came ≤ 120 * (j + 1); omega), (hk4 56 (by omega)).trans h56⟩ hI (lv_sub hl [2, 3, 4, 5, 6] rfl)
set_option maxHeartbeats 8000000 in
set_option maxRecDepth 100000 in
theorem st_length {p : Program} {l : Launch} {e : Env} {s : State} {m : MethodId} {below : List Frame} {meth : Method} {c : Code} {b L : Nat} {xs : Nat → Int32} {Q : State → Prop} {k : mC} {A : Nat → Prop} {ad : Nat → Nat} {r : Nat → Option Nat} {j : Nat} (C0 : LC p l s m meth c b L xs k A ad j) {d0 : Drawn} (hd0 : s.drawn.sameBut d0 lw_cs) {g : Nat → va_E} {H : Heap} {locs : List Loc} {ls : Array Slot} (hI : mI k ad 57 g A s H locs) (hl : lv_has ls 9 [(0, .ref b), (1, .ref (ad 0)), (2, .ref (ad 50)), (3, .ref (ad 56)), (4, .int (nI (4 * j)))]) (hLI : LI k ad g r j) (K : LK p l e s m below meth c b Q k A ad r j) : W p l e room_1 (s.setDrawn d0) m #[Value.ref b] below meth c H locs (57 + j) (2023 + 6 * j) Q (F0 m 1045 ls []) := by
  obtain ⟨hx, hb, hml, hown, htsL, hst, hX, hbl, hAb, hEd, hL, hj4⟩ := C0
  have hts := dr_words htsL d0
  have hE := hEd d0
  have hX : va_X b L xs (s.setDrawn d0) s.heap := hX
  obtain ⟨uns, play, rd, n, lat, gar, T, ⟨came, mis, lost, bel, fig, fi, u, z, F⟩, ⟨came', mis', lost', bel', fig', u', ln, pg⟩, th, fo, hC, hM, ⟨e1, e2, e3, e4, e5, e6, hR2, hR3⟩, hW, hwf, hmw, hcj, h56⟩ := hLI
  have f1 : came = came' := e1
  have f2 : mis = mis' := e2
  have f3 : lost = lost' := e3
  have f4 : bel = bel' := e4
  have f5 : fig = fig' := e5
  have f6 : u = u' := Eq.symm e6
  clear e1 e2 e3 e4 e5 e6
  subst f1 f2 f3 f4 f5 f6
  have hR : PgR (fi, u, z, F) (u, ln, pg) := ⟨rfl, hR2, hR3⟩
  have hR2 : ∀ l, l < u → z (slt fi l) = ln l := hR2
  have hR3 : ∀ l, l < u → ∀ i, i < ln l → F (slt fi l) i = pg (40 * l + i) := hR3
  have hC : CR k ad g uns play rd n lat gar T (came, mis, lost, bel, fig, fi, u, z, F) r := hC
  have hM : MR k ad g th uns play rd n lat gar T (came, mis, lost, bel, fig, u, ln, pg) := hM
  have hwf : cWf (fi, u, z, F) := hwf
  have hmw : mWf (u, ln, pg) := hmw
  have hcj : came ≤ 120 * j := hcj
  have hcame : came < 2000000000 := by omega
  have hu20 : u ≤ 20 := hmw.2.1
  have hn120 : n ≤ 120 := hW.2.2.1
  have hrdn : rd ≤ n := hW.2.1
  have hpl9 : play ≤ 9 := hW.1
  have hY : YR (came, mis, lost, bel, fig, fi, u, z, F) (came, mis, lost, bel, fig, u, ln, pg) := ⟨rfl, rfl, rfl, rfl, rfl, hR⟩
  refine lv_aload_n hx hb dL_law_1045 rfl (lv_at hl 1 rfl) ?_
  refine lv_aload_n hx hb dL_law_1046 rfl (lv_at hl 0 rfl) ?_
  refine lv_iload hx hb dL_law_1047 (lv_at hl 4 rfl) ?_
  refine lv_iconst (v := nI 1) hx hb dL_law_1049 (by decide) ?_
  refine m_iaddN hx hb dL_law_1050 ?_
  refine va_sld hx hb hX hbl hAb hI.2 (vp_in_nI (n := (4 * j) + 1) (by omega) (by omega)) dL_law_1051 ?_
  refine m_top (y := xs ((4 * j) + 1)) (by rw [nI_clamp (by omega)]) ?_
  refine lv_aload_n hx hb dL_law_1052 rfl (lv_at hl 3 rfl) ?_
  obtain ⟨p0, hp0⟩ : ∃ zz, zz = xs ((4 * j) + 1) := ⟨_, rfl⟩
  refine m_stk (show ([.ref (ad 56), .int (xs ((4 * j) + 1)), .ref (ad 0)] : List Value) = [.ref (ad 56), .int p0, .ref (ad 0)] from by rw [hp0]) ?_
  refine m_callSL (As := [.ref (ad 0), .int p0, .ref (ad 56)]) (rest := []) ⟨hx, hb, hml, hown, hts⟩ hE hI (c_L_length k l hst ad 57 g _ uns play rd n lat gar T came mis lost bel fig fi u z F r p0 fo (by omega) hW hwf hcame hC h56) (vx_cwSW 3 hts gL_law_L_length rfl rfl rfl (by decide +kernel) ⟨Nat.le_of_ble_eq_true rfl, Nat.le_of_ble_eq_true rfl⟩) rfl hl.1 rfl (Nat.le_of_ble_eq_true rfl) dL_law_1053 ⟨by show 57 + j + 1 ≤ 601024; omega, by show 2023 + 6 * j + 6 ≤ 7293034; omega⟩ (fun r9 g9 H locs hp hI => ?_)
  rcases hp with ⟨hr9, hok0, ⟨fo1, h561, hfo1⟩, hC9, hk9⟩ | ⟨hr9, hba0, hgg⟩
  · subst hr9
    have hM9 : MR k ad g9 th uns play rd n lat gar T (came, mis, lost, bel, fig, u, ln, pg) := MR.kept hM (fun i h1 h2 => hk9 i (by omega) (by omega))
    refine lv_istore (lv' := [(5, .int (nI 0)), (0, .ref b), (1, .ref (ad 0)), (2, .ref (ad 50)), (3, .ref (ad 56)), (4, .int (nI (4 * j)))]) hx hb dL_law_1056 hl (by decide) rfl (fun ls hl => ?_)
    refine lv_aload_n hx hb dL_law_1058 rfl (lv_at hl 3 rfl) ?_
    refine lv_aload_n hx hb dL_law_1059 rfl (lv_at hl 1 rfl) ?_
    refine lv_iload hx hb dL_law_1060 (lv_at hl 5 rfl) ?_
    refine lv_iconst (v := nI 1) hx hb dL_law_1062 (by decide) ?_
    refine m_iaddN hx hb dL_law_1063 ?_
    refine va_sld hx hb hX hbl hAb hI.2 (vp_in_nI (n := (4 * j) + 1) (by omega) (by omega)) dL_law_1064 ?_
    refine m_top (y := xs ((4 * j) + 1)) (by rw [nI_clamp (by omega)]) ?_
    refine m_stk (show ([.int (xs ((4 * j) + 1)), .ref (ad 50)] : List Value) = [.int p0, .ref (ad 50)] from by rw [hp0]) ?_
    refine m_callVi (As := [.int p0]) (rest := []) ⟨hx, hb, hml, hown, hts⟩ hE hI (c_X4_length k l ad 57 g9 _ th uns play rd n lat gar T came mis lost bel fig u ln pg p0 (by omega) hW hmw hcame hM9) (cwV 1 hts gL_law_X4_length rfl rfl rfl (by decide +kernel) ⟨Nat.le_of_ble_eq_true rfl, Nat.le_of_ble_eq_true rfl⟩) (i := 50) (by omega) hM9.1 rfl rfl hl.1 rfl (Nat.le_of_ble_eq_true rfl) dL_law_1065 ⟨by show 57 + j + 1 ≤ 601024; omega, by show 2023 + 6 * j + 6 ≤ 7293034; omega⟩ (fun r9 g4 H locs hp hI => ?_)
    obtain ⟨hp, hk4⟩ := hp
    rcases hp with ⟨hxo0, hr4, hM4⟩ | ⟨hxb0, hM4⟩
    · subst hr4
      have hC4 : CR k ad g4 uns play rd n lat gar T (came, mis, lost, bel, fig, fi, u, z, F) r := CR.kept hC9 (fun i hi => hk4 i (Or.inl hi))
      have h564 : g4 56 = .inl (k.2.1.2.2, 1, .inr (.inl fo1)) := (hk4 56 (by omega)).trans h561
      have hW4 : CW play rd n lat gar T := hW
      refine lv_istore (lv' := [(6, .int (nI (ln (tn p0)))), (5, .int (nI 0)), (0, .ref b), (1, .ref (ad 0)), (2, .ref (ad 50)), (3, .ref (ad 56)), (4, .int (nI (4 * j)))]) hx hb dL_law_1068 hl (by decide) rfl (fun ls hl => ?_)
      refine lv_aload_n hx hb dL_law_1070 rfl (lv_at hl 4 rfl) ?_
      refine m_callVi (As := []) (rest := []) ⟨hx, hb, hml, hown, hts⟩ hE hI (c_X4_thrown k l ad 57 g4 _ 0 uns play rd n lat gar T came mis lost bel fig u ln pg (by omega) hW4 hmw (by omega) hM4) (cwV 0 hts gL_law_X4_thrown rfl rfl rfl (by decide +kernel) ⟨Nat.le_of_ble_eq_true rfl, Nat.le_of_ble_eq_true rfl⟩) (i := 50) (by omega) hM4.1 rfl rfl hl.1 rfl (Nat.le_of_ble_eq_true rfl) dL_law_1071 ⟨by show 57 + j + 1 ≤ 601024; omega, by show 2023 + 6 * j + 6 ≤ 7293034; omega⟩ (m_deti (fun H locs hI => ?_))
      refine lv_iload hx hb dL_law_1074 (lv_at hl 1 rfl) ?_
      refine m_ceqN (tgt := 1081) hx hb (by omega) (by omega) dL_law_1076 (by decide) (fun c_1076 => ?_) (fun c => absurd c (by decide))
      refine lv_iload hx hb dL_law_1081 (lv_at hl 1 rfl) ?_
      refine m_zneN (tgt := 1098) hx hb (by omega) dL_law_1083 (by decide) (fun c => absurd c (by decide)) (fun c_1083 => ?_)
      refine lv_aload_n hx hb dL_law_1086 rfl (lv_at hl 5 rfl) ?_
      refine lv_iconst (v := nI 0) hx hb dL_law_1087 (by decide) ?_
      refine m_lald hx hb hE hI 56 (by omega) (j := 0) h564 (by omega) (by omega) dL_law_1088 ?_
      refine lv_iload hx hb dL_law_1089 (lv_at hl 0 rfl) ?_
      refine lv_i2l (v := (nI (ln (tn p0))).toInt64) hx hb dL_law_1091 rfl ?_
      refine W.lcmp hx hb dL_law_1092 ?_
      refine m_top (y := nI 0) (show lg_cmp (fo1 0) ((nI (ln (tn p0))).toInt64) = nI 0 from by rw [nI_0]; refine (lg_cmp_eq _ _).mpr ?_; rw [hfo1, hR2 (tn p0) (inN_tn hok0 (by omega))]) ?_
      refine m_zeqN (tgt := 1098) hx hb (by omega) dL_law_1093 (by decide) (fun c_1093 => ?_) (fun c => absurd c (by decide))
      refine lv_goto (tgt := 1350) hx hb dL_law_1098 (by decide) ?_
      refine m_cs (c1 := 57 + (j + 1)) (s1 := 2023 + 6 * (j + 1)) (by omega) (by omega) ?_
      exact K d0 g4 H locs ls hd0 ⟨_, _, _, _, _, _, _, _, _, _, _, hC4, hM4, hY, hW4, hwf, hmw, (by show came ≤ 120 * (j + 1); omega), h564⟩ hI (lv_sub hl [2, 3, 4, 5, 6] rfl)
    · exact absurd (hok0.symm.trans hxb0) (by decide)
  · subst hr9
    rw [hgg] at hI
    refine lv_istore (lv' := [(5, .int (nI 1)), (0, .ref b), (1, .ref (ad 0)), (2, .ref (ad 50)), (3, .ref (ad 56)), (4, .int (nI (4 * j)))]) hx hb dL_law_1056 hl (by decide) rfl (fun ls hl => ?_)
    refine lv_aload_n hx hb dL_law_1058 rfl (lv_at hl 3 rfl) ?_
    refine lv_aload_n hx hb dL_law_1059 rfl (lv_at hl 1 rfl) ?_
    refine lv_iload hx hb dL_law_1060 (lv_at hl 5 rfl) ?_
    refine lv_iconst (v := nI 1) hx hb dL_law_1062 (by decide) ?_
    refine m_iaddN hx hb dL_law_1063 ?_
    refine va_sld hx hb hX hbl hAb hI.2 (vp_in_nI (n := (4 * j) + 1) (by omega) (by omega)) dL_law_1064 ?_
    refine m_top (y := xs ((4 * j) + 1)) (by rw [nI_clamp (by omega)]) ?_
    refine m_stk (show ([.int (xs ((4 * j) + 1)), .ref (ad 50)] : List Value) = [.int p0, .ref (ad 50)] from by rw [hp0]) ?_
    refine m_callVi (As := [.int p0]) (rest := []) ⟨hx, hb, hml, hown, hts⟩ hE hI (c_X4_length k l ad 57 g _ th uns play rd n lat gar T came mis lost bel fig u ln pg p0 (by omega) hW hmw hcame hM) (cwV 1 hts gL_law_X4_length rfl rfl rfl (by decide +kernel) ⟨Nat.le_of_ble_eq_true rfl, Nat.le_of_ble_eq_true rfl⟩) (i := 50) (by omega) hM.1 rfl rfl hl.1 rfl (Nat.le_of_ble_eq_true rfl) dL_law_1065 ⟨by show 57 + j + 1 ≤ 601024; omega, by show 2023 + 6 * j + 6 ≤ 7293034; omega⟩ (fun r9 g4 H locs hp hI => ?_)
    obtain ⟨hp, hk4⟩ := hp
    rcases hp with ⟨hxo0, hr4, hM4⟩ | ⟨hxb0, hM4⟩
    · exact absurd (hxo0.symm.trans hba0) (by decide)
    · refine lv_istore (lv' := [(6, .int r9), (5, .int (nI 1)), (0, .ref b), (1, .ref (ad 0)), (2, .ref (ad 50)), (3, .ref (ad 56)), (4, .int (nI (4 * j)))]) hx hb dL_law_1068 hl (by decide) rfl (fun ls hl => ?_)
      refine lv_aload_n hx hb dL_law_1070 rfl (lv_at hl 4 rfl) ?_
      refine m_callVi (As := []) (rest := []) ⟨hx, hb, hml, hown, hts⟩ hE hI (c_X4_thrown k l ad 57 g4 _ 1 uns play rd n lat gar T came mis lost bel fig u ln pg (by omega) hW hmw (by omega) hM4) (cwV 0 hts gL_law_X4_thrown rfl rfl rfl (by decide +kernel) ⟨Nat.le_of_ble_eq_true rfl, Nat.le_of_ble_eq_true rfl⟩) (i := 50) (by omega) hM4.1 rfl rfl hl.1 rfl (Nat.le_of_ble_eq_true rfl) dL_law_1071 ⟨by show 57 + j + 1 ≤ 601024; omega, by show 2023 + 6 * j + 6 ≤ 7293034; omega⟩ (m_deti (fun H locs hI => ?_))
      refine lv_iload hx hb dL_law_1074 (lv_at hl 1 rfl) ?_
      refine m_ceqN (tgt := 1081) hx hb (by omega) (by omega) dL_law_1076 (by decide) (fun c_1076 => ?_) (fun c => absurd c (by decide))
      refine lv_iload hx hb dL_law_1081 (lv_at hl 1 rfl) ?_
      refine m_zneN (tgt := 1098) hx hb (by omega) dL_law_1083 (by decide) (fun c_1083 => ?_) (fun c => absurd c (by decide))
      refine lv_goto (tgt := 1350) hx hb dL_law_1098 (by decide) ?_
      refine m_cs (c1 := 57 + (j + 1)) (s1 := 2023 + 6 * (j + 1)) (by omega) (by omega) ?_
      exact K d0 g4 H locs ls hd0 ⟨_, _, _, _, _, _, _, _, _, _, _, CR.kept hC (fun i hi => hk4 i (Or.inl hi)), hM4, hY, hW, hwf, hmw, (by show came ≤ 120 * (j + 1); omega), (hk4 56 (by omega)).trans h56⟩ hI (lv_sub hl [2, 3, 4, 5, 6] rfl)
set_option maxHeartbeats 8000000 in
set_option maxRecDepth 100000 in
theorem st_count {p : Program} {l : Launch} {e : Env} {s : State} {m : MethodId} {below : List Frame} {meth : Method} {c : Code} {b L : Nat} {xs : Nat → Int32} {Q : State → Prop} {k : mC} {A : Nat → Prop} {ad : Nat → Nat} {r : Nat → Option Nat} {j : Nat} (C0 : LC p l s m meth c b L xs k A ad j) {d0 : Drawn} (hd0 : s.drawn.sameBut d0 lw_cs) {g : Nat → va_E} {H : Heap} {locs : List Loc} {ls : Array Slot} (hI : mI k ad 57 g A s H locs) (hl : lv_has ls 9 [(0, .ref b), (1, .ref (ad 0)), (2, .ref (ad 50)), (3, .ref (ad 56)), (4, .int (nI (4 * j)))]) (hLI : LI k ad g r j) (K : LK p l e s m below meth c b Q k A ad r j) : W p l e room_1 (s.setDrawn d0) m #[Value.ref b] below meth c H locs (57 + j) (2023 + 6 * j) Q (F0 m 1101 ls []) := by
  obtain ⟨hx, hb, hml, hown, htsL, hst, hX, hbl, hAb, hEd, hL, hj4⟩ := C0
  have hts := dr_words htsL d0
  have hE := hEd d0
  have hX : va_X b L xs (s.setDrawn d0) s.heap := hX
  obtain ⟨uns, play, rd, n, lat, gar, T, ⟨came, mis, lost, bel, fig, fi, u, z, F⟩, ⟨came', mis', lost', bel', fig', u', ln, pg⟩, th, fo, hC, hM, ⟨e1, e2, e3, e4, e5, e6, hR2, hR3⟩, hW, hwf, hmw, hcj, h56⟩ := hLI
  have f1 : came = came' := e1
  have f2 : mis = mis' := e2
  have f3 : lost = lost' := e3
  have f4 : bel = bel' := e4
  have f5 : fig = fig' := e5
  have f6 : u = u' := Eq.symm e6
  clear e1 e2 e3 e4 e5 e6
  subst f1 f2 f3 f4 f5 f6
  have hR : PgR (fi, u, z, F) (u, ln, pg) := ⟨rfl, hR2, hR3⟩
  have hR2 : ∀ l, l < u → z (slt fi l) = ln l := hR2
  have hR3 : ∀ l, l < u → ∀ i, i < ln l → F (slt fi l) i = pg (40 * l + i) := hR3
  have hC : CR k ad g uns play rd n lat gar T (came, mis, lost, bel, fig, fi, u, z, F) r := hC
  have hM : MR k ad g th uns play rd n lat gar T (came, mis, lost, bel, fig, u, ln, pg) := hM
  have hwf : cWf (fi, u, z, F) := hwf
  have hmw : mWf (u, ln, pg) := hmw
  have hcj : came ≤ 120 * j := hcj
  have hcame : came < 2000000000 := by omega
  have hu20 : u ≤ 20 := hmw.2.1
  have hn120 : n ≤ 120 := hW.2.2.1
  have hrdn : rd ≤ n := hW.2.1
  have hpl9 : play ≤ 9 := hW.1
  have hY : YR (came, mis, lost, bel, fig, fi, u, z, F) (came, mis, lost, bel, fig, u, ln, pg) := ⟨rfl, rfl, rfl, rfl, rfl, hR⟩
  refine lv_aload_n hx hb dL_law_1101 rfl (lv_at hl 1 rfl) ?_
  refine lv_aload_n hx hb dL_law_1102 rfl (lv_at hl 0 rfl) ?_
  refine lv_iload hx hb dL_law_1103 (lv_at hl 4 rfl) ?_
  refine lv_iconst (v := nI 1) hx hb dL_law_1105 (by decide) ?_
  refine m_iaddN hx hb dL_law_1106 ?_
  refine va_sld hx hb hX hbl hAb hI.2 (vp_in_nI (n := (4 * j) + 1) (by omega) (by omega)) dL_law_1107 ?_
  refine m_top (y := xs ((4 * j) + 1)) (by rw [nI_clamp (by omega)]) ?_
  refine lv_aload_n hx hb dL_law_1108 rfl (lv_at hl 3 rfl) ?_
  obtain ⟨p0, hp0⟩ : ∃ zz, zz = xs ((4 * j) + 1) := ⟨_, rfl⟩
  refine m_stk (show ([.ref (ad 56), .int (xs ((4 * j) + 1)), .ref (ad 0)] : List Value) = [.ref (ad 56), .int p0, .ref (ad 0)] from by rw [hp0]) ?_
  refine m_callSL (As := [.ref (ad 0), .int p0, .ref (ad 56)]) (rest := []) ⟨hx, hb, hml, hown, hts⟩ hE hI (c_L_count k l hst ad 57 g _ uns play rd n lat gar T came mis lost bel fig fi u z F r p0 fo (by omega) hW hwf hcame hC h56) (vx_cwSW 3 hts gL_law_L_count rfl rfl rfl (by decide +kernel) ⟨Nat.le_of_ble_eq_true rfl, Nat.le_of_ble_eq_true rfl⟩) rfl hl.1 rfl (Nat.le_of_ble_eq_true rfl) dL_law_1109 ⟨by show 57 + j + 1 ≤ 601024; omega, by show 2023 + 6 * j + 6 ≤ 7293034; omega⟩ (fun r9 g9 H locs hp hI => ?_)
  rcases hp with ⟨hr9, hok0, ⟨fo1, h561, hfo1⟩, hC9, hk9⟩ | ⟨hr9, hba0, hgg⟩
  · subst hr9
    have hM9 : MR k ad g9 th uns play rd n lat gar T (came, mis, lost, bel, fig, u, ln, pg) := MR.kept hM (fun i h1 h2 => hk9 i (by omega) (by omega))
    refine lv_istore (lv' := [(5, .int (nI 0)), (0, .ref b), (1, .ref (ad 0)), (2, .ref (ad 50)), (3, .ref (ad 56)), (4, .int (nI (4 * j)))]) hx hb dL_law_1112 hl (by decide) rfl (fun ls hl => ?_)
    refine lv_aload_n hx hb dL_law_1114 rfl (lv_at hl 3 rfl) ?_
    refine lv_aload_n hx hb dL_law_1115 rfl (lv_at hl 1 rfl) ?_
    refine lv_iload hx hb dL_law_1116 (lv_at hl 5 rfl) ?_
    refine lv_iconst (v := nI 1) hx hb dL_law_1118 (by decide) ?_
    refine m_iaddN hx hb dL_law_1119 ?_
    refine va_sld hx hb hX hbl hAb hI.2 (vp_in_nI (n := (4 * j) + 1) (by omega) (by omega)) dL_law_1120 ?_
    refine m_top (y := xs ((4 * j) + 1)) (by rw [nI_clamp (by omega)]) ?_
    refine m_stk (show ([.int (xs ((4 * j) + 1)), .ref (ad 50)] : List Value) = [.int p0, .ref (ad 50)] from by rw [hp0]) ?_
    refine m_callVi (As := [.int p0]) (rest := []) ⟨hx, hb, hml, hown, hts⟩ hE hI (c_X4_count k l ad 57 g9 _ th uns play rd n lat gar T came mis lost bel fig u ln pg p0 (by omega) hW hmw hcame hM9) (cwV 1 hts gL_law_X4_count rfl rfl rfl (by decide +kernel) ⟨Nat.le_of_ble_eq_true rfl, Nat.le_of_ble_eq_true rfl⟩) (i := 50) (by omega) hM9.1 rfl rfl hl.1 rfl (Nat.le_of_ble_eq_true rfl) dL_law_1121 ⟨by show 57 + j + 1 ≤ 601024; omega, by show 2023 + 6 * j + 6 ≤ 7293034; omega⟩ (fun r9 g4 H locs hp hI => ?_)
    obtain ⟨hp, hk4⟩ := hp
    rcases hp with ⟨hxo0, hr4, hM4⟩ | ⟨hxb0, hM4⟩
    · subst hr4
      have hC4 : CR k ad g4 uns play rd n lat gar T (came, mis, lost, bel, fig, fi, u, z, F) r := CR.kept hC9 (fun i hi => hk4 i (Or.inl hi))
      have h564 : g4 56 = .inl (k.2.1.2.2, 1, .inr (.inl fo1)) := (hk4 56 (by omega)).trans h561
      have hW4 : CW play rd n lat gar T := hW
      refine lv_istore (lv' := [(6, .int (cntV u (sumL ln u) fig play n rd came mis lost uns bel (tn p0))), (5, .int (nI 0)), (0, .ref b), (1, .ref (ad 0)), (2, .ref (ad 50)), (3, .ref (ad 56)), (4, .int (nI (4 * j)))]) hx hb dL_law_1124 hl (by decide) rfl (fun ls hl => ?_)
      refine lv_aload_n hx hb dL_law_1126 rfl (lv_at hl 4 rfl) ?_
      refine m_callVi (As := []) (rest := []) ⟨hx, hb, hml, hown, hts⟩ hE hI (c_X4_thrown k l ad 57 g4 _ 0 uns play rd n lat gar T came mis lost bel fig u ln pg (by omega) hW4 hmw (by omega) hM4) (cwV 0 hts gL_law_X4_thrown rfl rfl rfl (by decide +kernel) ⟨Nat.le_of_ble_eq_true rfl, Nat.le_of_ble_eq_true rfl⟩) (i := 50) (by omega) hM4.1 rfl rfl hl.1 rfl (Nat.le_of_ble_eq_true rfl) dL_law_1127 ⟨by show 57 + j + 1 ≤ 601024; omega, by show 2023 + 6 * j + 6 ≤ 7293034; omega⟩ (m_deti (fun H locs hI => ?_))
      refine lv_iload hx hb dL_law_1130 (lv_at hl 1 rfl) ?_
      refine m_ceqN (tgt := 1137) hx hb (by omega) (by omega) dL_law_1132 (by decide) (fun c_1132 => ?_) (fun c => absurd c (by decide))
      refine lv_iload hx hb dL_law_1137 (lv_at hl 1 rfl) ?_
      refine m_zneN (tgt := 1154) hx hb (by omega) dL_law_1139 (by decide) (fun c => absurd c (by decide)) (fun c_1139 => ?_)
      refine lv_aload_n hx hb dL_law_1142 rfl (lv_at hl 5 rfl) ?_
      refine lv_iconst (v := nI 0) hx hb dL_law_1143 (by decide) ?_
      refine m_lald hx hb hE hI 56 (by omega) (j := 0) h564 (by omega) (by omega) dL_law_1144 ?_
      refine lv_iload hx hb dL_law_1145 (lv_at hl 0 rfl) ?_
      refine lv_i2l (v := (cntV u (sumL ln u) fig play n rd came mis lost uns bel (tn p0)).toInt64) hx hb dL_law_1147 rfl ?_
      refine W.lcmp hx hb dL_law_1148 ?_
      refine m_top (y := nI 0) (show lg_cmp (fo1 0) ((cntV u (sumL ln u) fig play n rd came mis lost uns bel (tn p0)).toInt64) = nI 0 from by rw [nI_0]; refine (lg_cmp_eq _ _).mpr ?_; rw [hfo1, PgR_sum hR u (Nat.le_refl u)]) ?_
      refine m_zeqN (tgt := 1154) hx hb (by omega) dL_law_1149 (by decide) (fun c_1149 => ?_) (fun c => absurd c (by decide))
      refine lv_goto (tgt := 1350) hx hb dL_law_1154 (by decide) ?_
      refine m_cs (c1 := 57 + (j + 1)) (s1 := 2023 + 6 * (j + 1)) (by omega) (by omega) ?_
      exact K d0 g4 H locs ls hd0 ⟨_, _, _, _, _, _, _, _, _, _, _, hC4, hM4, hY, hW4, hwf, hmw, (by show came ≤ 120 * (j + 1); omega), h564⟩ hI (lv_sub hl [2, 3, 4, 5, 6] rfl)
    · exact absurd (hok0.symm.trans hxb0) (by decide)
  · subst hr9
    rw [hgg] at hI
    refine lv_istore (lv' := [(5, .int (nI 1)), (0, .ref b), (1, .ref (ad 0)), (2, .ref (ad 50)), (3, .ref (ad 56)), (4, .int (nI (4 * j)))]) hx hb dL_law_1112 hl (by decide) rfl (fun ls hl => ?_)
    refine lv_aload_n hx hb dL_law_1114 rfl (lv_at hl 3 rfl) ?_
    refine lv_aload_n hx hb dL_law_1115 rfl (lv_at hl 1 rfl) ?_
    refine lv_iload hx hb dL_law_1116 (lv_at hl 5 rfl) ?_
    refine lv_iconst (v := nI 1) hx hb dL_law_1118 (by decide) ?_
    refine m_iaddN hx hb dL_law_1119 ?_
    refine va_sld hx hb hX hbl hAb hI.2 (vp_in_nI (n := (4 * j) + 1) (by omega) (by omega)) dL_law_1120 ?_
    refine m_top (y := xs ((4 * j) + 1)) (by rw [nI_clamp (by omega)]) ?_
    refine m_stk (show ([.int (xs ((4 * j) + 1)), .ref (ad 50)] : List Value) = [.int p0, .ref (ad 50)] from by rw [hp0]) ?_
    refine m_callVi (As := [.int p0]) (rest := []) ⟨hx, hb, hml, hown, hts⟩ hE hI (c_X4_count k l ad 57 g _ th uns play rd n lat gar T came mis lost bel fig u ln pg p0 (by omega) hW hmw hcame hM) (cwV 1 hts gL_law_X4_count rfl rfl rfl (by decide +kernel) ⟨Nat.le_of_ble_eq_true rfl, Nat.le_of_ble_eq_true rfl⟩) (i := 50) (by omega) hM.1 rfl rfl hl.1 rfl (Nat.le_of_ble_eq_true rfl) dL_law_1121 ⟨by show 57 + j + 1 ≤ 601024; omega, by show 2023 + 6 * j + 6 ≤ 7293034; omega⟩ (fun r9 g4 H locs hp hI => ?_)
    obtain ⟨hp, hk4⟩ := hp
    rcases hp with ⟨hxo0, hr4, hM4⟩ | ⟨hxb0, hM4⟩
    · exact absurd (hxo0.symm.trans hba0) (by decide)
    · refine lv_istore (lv' := [(6, .int r9), (5, .int (nI 1)), (0, .ref b), (1, .ref (ad 0)), (2, .ref (ad 50)), (3, .ref (ad 56)), (4, .int (nI (4 * j)))]) hx hb dL_law_1124 hl (by decide) rfl (fun ls hl => ?_)
      refine lv_aload_n hx hb dL_law_1126 rfl (lv_at hl 4 rfl) ?_
      refine m_callVi (As := []) (rest := []) ⟨hx, hb, hml, hown, hts⟩ hE hI (c_X4_thrown k l ad 57 g4 _ 1 uns play rd n lat gar T came mis lost bel fig u ln pg (by omega) hW hmw (by omega) hM4) (cwV 0 hts gL_law_X4_thrown rfl rfl rfl (by decide +kernel) ⟨Nat.le_of_ble_eq_true rfl, Nat.le_of_ble_eq_true rfl⟩) (i := 50) (by omega) hM4.1 rfl rfl hl.1 rfl (Nat.le_of_ble_eq_true rfl) dL_law_1127 ⟨by show 57 + j + 1 ≤ 601024; omega, by show 2023 + 6 * j + 6 ≤ 7293034; omega⟩ (m_deti (fun H locs hI => ?_))
      refine lv_iload hx hb dL_law_1130 (lv_at hl 1 rfl) ?_
      refine m_ceqN (tgt := 1137) hx hb (by omega) (by omega) dL_law_1132 (by decide) (fun c_1132 => ?_) (fun c => absurd c (by decide))
      refine lv_iload hx hb dL_law_1137 (lv_at hl 1 rfl) ?_
      refine m_zneN (tgt := 1154) hx hb (by omega) dL_law_1139 (by decide) (fun c_1139 => ?_) (fun c => absurd c (by decide))
      refine lv_goto (tgt := 1350) hx hb dL_law_1154 (by decide) ?_
      refine m_cs (c1 := 57 + (j + 1)) (s1 := 2023 + 6 * (j + 1)) (by omega) (by omega) ?_
      exact K d0 g4 H locs ls hd0 ⟨_, _, _, _, _, _, _, _, _, _, _, CR.kept hC (fun i hi => hk4 i (Or.inl hi)), hM4, hY, hW, hwf, hmw, (by show came ≤ 120 * (j + 1); omega), (hk4 56 (by omega)).trans h56⟩ hI (lv_sub hl [2, 3, 4, 5, 6] rfl)
set_option maxHeartbeats 8000000 in
set_option maxRecDepth 100000 in
theorem st_would {p : Program} {l : Launch} {e : Env} {s : State} {m : MethodId} {below : List Frame} {meth : Method} {c : Code} {b L : Nat} {xs : Nat → Int32} {Q : State → Prop} {k : mC} {A : Nat → Prop} {ad : Nat → Nat} {r : Nat → Option Nat} {j : Nat} (C0 : LC p l s m meth c b L xs k A ad j) {d0 : Drawn} (hd0 : s.drawn.sameBut d0 lw_cs) {g : Nat → va_E} {H : Heap} {locs : List Loc} {ls : Array Slot} (hI : mI k ad 57 g A s H locs) (hl : lv_has ls 9 [(0, .ref b), (1, .ref (ad 0)), (2, .ref (ad 50)), (3, .ref (ad 56)), (4, .int (nI (4 * j)))]) (hLI : LI k ad g r j) (K : LK p l e s m below meth c b Q k A ad r j) : W p l e room_1 (s.setDrawn d0) m #[Value.ref b] below meth c H locs (57 + j) (2023 + 6 * j) Q (F0 m 1157 ls []) := by
  obtain ⟨hx, hb, hml, hown, htsL, hst, hX, hbl, hAb, hEd, hL, hj4⟩ := C0
  have hts := dr_words htsL d0
  have hE := hEd d0
  have hX : va_X b L xs (s.setDrawn d0) s.heap := hX
  obtain ⟨uns, play, rd, n, lat, gar, T, ⟨came, mis, lost, bel, fig, fi, u, z, F⟩, ⟨came', mis', lost', bel', fig', u', ln, pg⟩, th, fo, hC, hM, ⟨e1, e2, e3, e4, e5, e6, hR2, hR3⟩, hW, hwf, hmw, hcj, h56⟩ := hLI
  have f1 : came = came' := e1
  have f2 : mis = mis' := e2
  have f3 : lost = lost' := e3
  have f4 : bel = bel' := e4
  have f5 : fig = fig' := e5
  have f6 : u = u' := Eq.symm e6
  clear e1 e2 e3 e4 e5 e6
  subst f1 f2 f3 f4 f5 f6
  have hR : PgR (fi, u, z, F) (u, ln, pg) := ⟨rfl, hR2, hR3⟩
  have hR2 : ∀ l, l < u → z (slt fi l) = ln l := hR2
  have hR3 : ∀ l, l < u → ∀ i, i < ln l → F (slt fi l) i = pg (40 * l + i) := hR3
  have hC : CR k ad g uns play rd n lat gar T (came, mis, lost, bel, fig, fi, u, z, F) r := hC
  have hM : MR k ad g th uns play rd n lat gar T (came, mis, lost, bel, fig, u, ln, pg) := hM
  have hwf : cWf (fi, u, z, F) := hwf
  have hmw : mWf (u, ln, pg) := hmw
  have hcj : came ≤ 120 * j := hcj
  have hcame : came < 2000000000 := by omega
  have hu20 : u ≤ 20 := hmw.2.1
  have hn120 : n ≤ 120 := hW.2.2.1
  have hrdn : rd ≤ n := hW.2.1
  have hpl9 : play ≤ 9 := hW.1
  have hY : YR (came, mis, lost, bel, fig, fi, u, z, F) (came, mis, lost, bel, fig, u, ln, pg) := ⟨rfl, rfl, rfl, rfl, rfl, hR⟩
  refine lv_aload_n hx hb dL_law_1157 rfl (lv_at hl 1 rfl) ?_
  refine lv_aload_n hx hb dL_law_1158 rfl (lv_at hl 0 rfl) ?_
  refine lv_iload hx hb dL_law_1159 (lv_at hl 4 rfl) ?_
  refine lv_iconst (v := nI 1) hx hb dL_law_1161 (by decide) ?_
  refine m_iaddN hx hb dL_law_1162 ?_
  refine va_sld hx hb hX hbl hAb hI.2 (vp_in_nI (n := (4 * j) + 1) (by omega) (by omega)) dL_law_1163 ?_
  refine m_top (y := xs ((4 * j) + 1)) (by rw [nI_clamp (by omega)]) ?_
  refine lv_aload_n hx hb dL_law_1164 rfl (lv_at hl 3 rfl) ?_
  obtain ⟨p0, hp0⟩ : ∃ zz, zz = xs ((4 * j) + 1) := ⟨_, rfl⟩
  refine m_stk (show ([.ref (ad 56), .int (xs ((4 * j) + 1)), .ref (ad 0)] : List Value) = [.ref (ad 56), .int p0, .ref (ad 0)] from by rw [hp0]) ?_
  refine m_callSL (As := [.ref (ad 0), .int p0, .ref (ad 56)]) (rest := []) ⟨hx, hb, hml, hown, hts⟩ hE hI (c_L_would k l hst ad 57 g _ uns play rd n lat gar T came mis lost bel fig fi u z F r p0 fo (by omega) hW hwf hcame hC h56) (vx_cwSW 3 hts gL_law_L_would rfl rfl rfl (by decide +kernel) ⟨Nat.le_of_ble_eq_true rfl, Nat.le_of_ble_eq_true rfl⟩) rfl hl.1 rfl (Nat.le_of_ble_eq_true rfl) dL_law_1165 ⟨by show 57 + j + 1 ≤ 601024; omega, by show 2023 + 6 * j + 6 ≤ 7293034; omega⟩ (fun r9 g9 H locs hp hI => ?_)
  rcases hp with ⟨hr9, hok0, ⟨fo1, h561, hfo1⟩, hC9, hk9⟩ | ⟨hr9, hba0, hgg⟩
  · subst hr9
    have hM9 : MR k ad g9 th uns play rd n lat gar T (came, mis, lost, bel, fig, u, ln, pg) := MR.kept hM (fun i h1 h2 => hk9 i (by omega) (by omega))
    refine lv_istore (lv' := [(5, .int (nI 0)), (0, .ref b), (1, .ref (ad 0)), (2, .ref (ad 50)), (3, .ref (ad 56)), (4, .int (nI (4 * j)))]) hx hb dL_law_1168 hl (by decide) rfl (fun ls hl => ?_)
    refine lv_aload_n hx hb dL_law_1170 rfl (lv_at hl 3 rfl) ?_
    refine lv_aload_n hx hb dL_law_1171 rfl (lv_at hl 1 rfl) ?_
    refine lv_iload hx hb dL_law_1172 (lv_at hl 5 rfl) ?_
    refine lv_iconst (v := nI 1) hx hb dL_law_1174 (by decide) ?_
    refine m_iaddN hx hb dL_law_1175 ?_
    refine va_sld hx hb hX hbl hAb hI.2 (vp_in_nI (n := (4 * j) + 1) (by omega) (by omega)) dL_law_1176 ?_
    refine m_top (y := xs ((4 * j) + 1)) (by rw [nI_clamp (by omega)]) ?_
    refine m_stk (show ([.int (xs ((4 * j) + 1)), .ref (ad 50)] : List Value) = [.int p0, .ref (ad 50)] from by rw [hp0]) ?_
    refine m_callVi (As := [.int p0]) (rest := []) ⟨hx, hb, hml, hown, hts⟩ hE hI (c_X4_would k l ad 57 g9 _ th uns play rd n lat gar T came mis lost bel fig u ln pg p0 (by omega) hW hmw hcame hM9) (cwV 1 hts gL_law_X4_would rfl rfl rfl (by decide +kernel) ⟨Nat.le_of_ble_eq_true rfl, Nat.le_of_ble_eq_true rfl⟩) (i := 50) (by omega) hM9.1 rfl rfl hl.1 rfl (Nat.le_of_ble_eq_true rfl) dL_law_1177 ⟨by show 57 + j + 1 ≤ 601024; omega, by show 2023 + 6 * j + 6 ≤ 7293034; omega⟩ (fun r9 g4 H locs hp hI => ?_)
    obtain ⟨hp, hk4⟩ := hp
    rcases hp with ⟨hxo0, hr4, hM4⟩ | ⟨hxb0, hM4⟩
    · subst hr4
      have hC4 : CR k ad g4 uns play rd n lat gar T (came, mis, lost, bel, fig, fi, u, z, F) r := CR.kept hC9 (fun i hi => hk4 i (Or.inl hi))
      have h564 : g4 56 = .inl (k.2.1.2.2, 1, .inr (.inl fo1)) := (hk4 56 (by omega)).trans h561
      have hW4 : CW play rd n lat gar T := hW
      refine lv_istore (lv' := [(6, .int (nI (rdY play lat gar came (tn p0)))), (5, .int (nI 0)), (0, .ref b), (1, .ref (ad 0)), (2, .ref (ad 50)), (3, .ref (ad 56)), (4, .int (nI (4 * j)))]) hx hb dL_law_1180 hl (by decide) rfl (fun ls hl => ?_)
      refine lv_aload_n hx hb dL_law_1182 rfl (lv_at hl 4 rfl) ?_
      refine m_callVi (As := []) (rest := []) ⟨hx, hb, hml, hown, hts⟩ hE hI (c_X4_thrown k l ad 57 g4 _ 0 uns play rd n lat gar T came mis lost bel fig u ln pg (by omega) hW4 hmw (by omega) hM4) (cwV 0 hts gL_law_X4_thrown rfl rfl rfl (by decide +kernel) ⟨Nat.le_of_ble_eq_true rfl, Nat.le_of_ble_eq_true rfl⟩) (i := 50) (by omega) hM4.1 rfl rfl hl.1 rfl (Nat.le_of_ble_eq_true rfl) dL_law_1183 ⟨by show 57 + j + 1 ≤ 601024; omega, by show 2023 + 6 * j + 6 ≤ 7293034; omega⟩ (m_deti (fun H locs hI => ?_))
      refine lv_iload hx hb dL_law_1186 (lv_at hl 1 rfl) ?_
      refine m_ceqN (tgt := 1193) hx hb (by omega) (by omega) dL_law_1188 (by decide) (fun c_1188 => ?_) (fun c => absurd c (by decide))
      refine lv_iload hx hb dL_law_1193 (lv_at hl 1 rfl) ?_
      refine m_zneN (tgt := 1210) hx hb (by omega) dL_law_1195 (by decide) (fun c => absurd c (by decide)) (fun c_1195 => ?_)
      refine lv_aload_n hx hb dL_law_1198 rfl (lv_at hl 5 rfl) ?_
      refine lv_iconst (v := nI 0) hx hb dL_law_1199 (by decide) ?_
      refine m_lald hx hb hE hI 56 (by omega) (j := 0) h564 (by omega) (by omega) dL_law_1200 ?_
      refine lv_iload hx hb dL_law_1201 (lv_at hl 0 rfl) ?_
      refine lv_i2l (v := (nI (rdY play lat gar came (tn p0))).toInt64) hx hb dL_law_1203 rfl ?_
      refine W.lcmp hx hb dL_law_1204 ?_
      refine m_top (y := nI 0) (show lg_cmp (fo1 0) ((nI (rdY play lat gar came (tn p0))).toInt64) = nI 0 from by rw [nI_0]; refine (lg_cmp_eq _ _).mpr ?_; rw [hfo1]) ?_
      refine m_zeqN (tgt := 1210) hx hb (by omega) dL_law_1205 (by decide) (fun c_1205 => ?_) (fun c => absurd c (by decide))
      refine lv_goto (tgt := 1350) hx hb dL_law_1210 (by decide) ?_
      refine m_cs (c1 := 57 + (j + 1)) (s1 := 2023 + 6 * (j + 1)) (by omega) (by omega) ?_
      exact K d0 g4 H locs ls hd0 ⟨_, _, _, _, _, _, _, _, _, _, _, hC4, hM4, hY, hW4, hwf, hmw, (by show came ≤ 120 * (j + 1); omega), h564⟩ hI (lv_sub hl [2, 3, 4, 5, 6] rfl)
    · exact absurd (hok0.symm.trans hxb0) (by decide)
  · subst hr9
    rw [hgg] at hI
    refine lv_istore (lv' := [(5, .int (nI 1)), (0, .ref b), (1, .ref (ad 0)), (2, .ref (ad 50)), (3, .ref (ad 56)), (4, .int (nI (4 * j)))]) hx hb dL_law_1168 hl (by decide) rfl (fun ls hl => ?_)
    refine lv_aload_n hx hb dL_law_1170 rfl (lv_at hl 3 rfl) ?_
    refine lv_aload_n hx hb dL_law_1171 rfl (lv_at hl 1 rfl) ?_
    refine lv_iload hx hb dL_law_1172 (lv_at hl 5 rfl) ?_
    refine lv_iconst (v := nI 1) hx hb dL_law_1174 (by decide) ?_
    refine m_iaddN hx hb dL_law_1175 ?_
    refine va_sld hx hb hX hbl hAb hI.2 (vp_in_nI (n := (4 * j) + 1) (by omega) (by omega)) dL_law_1176 ?_
    refine m_top (y := xs ((4 * j) + 1)) (by rw [nI_clamp (by omega)]) ?_
    refine m_stk (show ([.int (xs ((4 * j) + 1)), .ref (ad 50)] : List Value) = [.int p0, .ref (ad 50)] from by rw [hp0]) ?_
    refine m_callVi (As := [.int p0]) (rest := []) ⟨hx, hb, hml, hown, hts⟩ hE hI (c_X4_would k l ad 57 g _ th uns play rd n lat gar T came mis lost bel fig u ln pg p0 (by omega) hW hmw hcame hM) (cwV 1 hts gL_law_X4_would rfl rfl rfl (by decide +kernel) ⟨Nat.le_of_ble_eq_true rfl, Nat.le_of_ble_eq_true rfl⟩) (i := 50) (by omega) hM.1 rfl rfl hl.1 rfl (Nat.le_of_ble_eq_true rfl) dL_law_1177 ⟨by show 57 + j + 1 ≤ 601024; omega, by show 2023 + 6 * j + 6 ≤ 7293034; omega⟩ (fun r9 g4 H locs hp hI => ?_)
    obtain ⟨hp, hk4⟩ := hp
    rcases hp with ⟨hxo0, hr4, hM4⟩ | ⟨hxb0, hM4⟩
    · exact absurd (hxo0.symm.trans hba0) (by decide)
    · refine lv_istore (lv' := [(6, .int r9), (5, .int (nI 1)), (0, .ref b), (1, .ref (ad 0)), (2, .ref (ad 50)), (3, .ref (ad 56)), (4, .int (nI (4 * j)))]) hx hb dL_law_1180 hl (by decide) rfl (fun ls hl => ?_)
      refine lv_aload_n hx hb dL_law_1182 rfl (lv_at hl 4 rfl) ?_
      refine m_callVi (As := []) (rest := []) ⟨hx, hb, hml, hown, hts⟩ hE hI (c_X4_thrown k l ad 57 g4 _ 1 uns play rd n lat gar T came mis lost bel fig u ln pg (by omega) hW hmw (by omega) hM4) (cwV 0 hts gL_law_X4_thrown rfl rfl rfl (by decide +kernel) ⟨Nat.le_of_ble_eq_true rfl, Nat.le_of_ble_eq_true rfl⟩) (i := 50) (by omega) hM4.1 rfl rfl hl.1 rfl (Nat.le_of_ble_eq_true rfl) dL_law_1183 ⟨by show 57 + j + 1 ≤ 601024; omega, by show 2023 + 6 * j + 6 ≤ 7293034; omega⟩ (m_deti (fun H locs hI => ?_))
      refine lv_iload hx hb dL_law_1186 (lv_at hl 1 rfl) ?_
      refine m_ceqN (tgt := 1193) hx hb (by omega) (by omega) dL_law_1188 (by decide) (fun c_1188 => ?_) (fun c => absurd c (by decide))
      refine lv_iload hx hb dL_law_1193 (lv_at hl 1 rfl) ?_
      refine m_zneN (tgt := 1210) hx hb (by omega) dL_law_1195 (by decide) (fun c_1195 => ?_) (fun c => absurd c (by decide))
      refine lv_goto (tgt := 1350) hx hb dL_law_1210 (by decide) ?_
      refine m_cs (c1 := 57 + (j + 1)) (s1 := 2023 + 6 * (j + 1)) (by omega) (by omega) ?_
      exact K d0 g4 H locs ls hd0 ⟨_, _, _, _, _, _, _, _, _, _, _, CR.kept hC (fun i hi => hk4 i (Or.inl hi)), hM4, hY, hW, hwf, hmw, (by show came ≤ 120 * (j + 1); omega), (hk4 56 (by omega)).trans h56⟩ hI (lv_sub hl [2, 3, 4, 5, 6] rfl)
set_option maxHeartbeats 8000000 in
set_option maxRecDepth 100000 in
theorem st_prints {p : Program} {l : Launch} {e : Env} {s : State} {m : MethodId} {below : List Frame} {meth : Method} {c : Code} {b L : Nat} {xs : Nat → Int32} {Q : State → Prop} {k : mC} {A : Nat → Prop} {ad : Nat → Nat} {r : Nat → Option Nat} {j : Nat} (C0 : LC p l s m meth c b L xs k A ad j) {d0 : Drawn} (hd0 : s.drawn.sameBut d0 lw_cs) {g : Nat → va_E} {H : Heap} {locs : List Loc} {ls : Array Slot} (hI : mI k ad 57 g A s H locs) (hl : lv_has ls 9 [(0, .ref b), (1, .ref (ad 0)), (2, .ref (ad 50)), (3, .ref (ad 56)), (4, .int (nI (4 * j)))]) (hLI : LI k ad g r j) (K : LK p l e s m below meth c b Q k A ad r j) : W p l e room_1 (s.setDrawn d0) m #[Value.ref b] below meth c H locs (57 + j) (2023 + 6 * j) Q (F0 m 1239 ls []) := by
  obtain ⟨hx, hb, hml, hown, htsL, hst, hX, hbl, hAb, hEd, hL, hj4⟩ := C0
  have hts := dr_words htsL d0
  have hE := hEd d0
  have hX : va_X b L xs (s.setDrawn d0) s.heap := hX
  obtain ⟨uns, play, rd, n, lat, gar, T, ⟨came, mis, lost, bel, fig, fi, u, z, F⟩, ⟨came', mis', lost', bel', fig', u', ln, pg⟩, th, fo, hC, hM, ⟨e1, e2, e3, e4, e5, e6, hR2, hR3⟩, hW, hwf, hmw, hcj, h56⟩ := hLI
  have f1 : came = came' := e1
  have f2 : mis = mis' := e2
  have f3 : lost = lost' := e3
  have f4 : bel = bel' := e4
  have f5 : fig = fig' := e5
  have f6 : u = u' := Eq.symm e6
  clear e1 e2 e3 e4 e5 e6
  subst f1 f2 f3 f4 f5 f6
  have hR : PgR (fi, u, z, F) (u, ln, pg) := ⟨rfl, hR2, hR3⟩
  have hR2 : ∀ l, l < u → z (slt fi l) = ln l := hR2
  have hR3 : ∀ l, l < u → ∀ i, i < ln l → F (slt fi l) i = pg (40 * l + i) := hR3
  have hC : CR k ad g uns play rd n lat gar T (came, mis, lost, bel, fig, fi, u, z, F) r := hC
  have hM : MR k ad g th uns play rd n lat gar T (came, mis, lost, bel, fig, u, ln, pg) := hM
  have hwf : cWf (fi, u, z, F) := hwf
  have hmw : mWf (u, ln, pg) := hmw
  have hcj : came ≤ 120 * j := hcj
  have hcame : came < 2000000000 := by omega
  have hu20 : u ≤ 20 := hmw.2.1
  have hn120 : n ≤ 120 := hW.2.2.1
  have hrdn : rd ≤ n := hW.2.1
  have hpl9 : play ≤ 9 := hW.1
  have hY : YR (came, mis, lost, bel, fig, fi, u, z, F) (came, mis, lost, bel, fig, u, ln, pg) := ⟨rfl, rfl, rfl, rfl, rfl, hR⟩
  refine lv_aload_n hx hb dL_law_1239 rfl (lv_at hl 1 rfl) ?_
  refine lv_aload_n hx hb dL_law_1240 rfl (lv_at hl 0 rfl) ?_
  refine lv_iload hx hb dL_law_1241 (lv_at hl 4 rfl) ?_
  refine lv_iconst (v := nI 1) hx hb dL_law_1243 (by decide) ?_
  refine m_iaddN hx hb dL_law_1244 ?_
  refine va_sld hx hb hX hbl hAb hI.2 (vp_in_nI (n := (4 * j) + 1) (by omega) (by omega)) dL_law_1245 ?_
  refine m_top (y := xs ((4 * j) + 1)) (by rw [nI_clamp (by omega)]) ?_
  refine lv_aload_n hx hb dL_law_1246 rfl (lv_at hl 3 rfl) ?_
  obtain ⟨p0, hp0⟩ : ∃ zz, zz = xs ((4 * j) + 1) := ⟨_, rfl⟩
  refine m_stk (show ([.ref (ad 56), .int (xs ((4 * j) + 1)), .ref (ad 0)] : List Value) = [.ref (ad 56), .int p0, .ref (ad 0)] from by rw [hp0]) ?_
  refine m_callSL (As := [.ref (ad 0), .int p0, .ref (ad 56)]) (rest := []) ⟨hx, hb, hml, hown, hts⟩ hE hI (c_L_prints k l hst ad 57 g _ uns play rd n lat gar T came mis lost bel fig fi u z F r p0 fo (by omega) hW hwf hcame hC h56) (vx_cwSW 3 hts gL_law_L_prints rfl rfl rfl (by decide +kernel) ⟨Nat.le_of_ble_eq_true rfl, Nat.le_of_ble_eq_true rfl⟩) rfl hl.1 rfl (Nat.le_of_ble_eq_true rfl) dL_law_1247 ⟨by show 57 + j + 1 ≤ 601024; omega, by show 2023 + 6 * j + 6 ≤ 7293034; omega⟩ (fun r9 g9 H locs hp hI => ?_)
  rcases hp with ⟨hr9, hok0, ⟨fo1, h561, hfo1⟩, hC9, hk9⟩ | ⟨hr9, hba0, hgg⟩
  · subst hr9
    have hM9 : MR k ad g9 th uns play rd n lat gar T (came, mis, lost, bel, fig, u, ln, pg) := MR.kept hM (fun i h1 h2 => hk9 i (by omega) (by omega))
    refine lv_istore (lv' := [(5, .int (nI 0)), (0, .ref b), (1, .ref (ad 0)), (2, .ref (ad 50)), (3, .ref (ad 56)), (4, .int (nI (4 * j)))]) hx hb dL_law_1250 hl (by decide) rfl (fun ls hl => ?_)
    refine lv_aload_n hx hb dL_law_1252 rfl (lv_at hl 3 rfl) ?_
    refine lv_aload_n hx hb dL_law_1253 rfl (lv_at hl 1 rfl) ?_
    refine lv_iload hx hb dL_law_1254 (lv_at hl 5 rfl) ?_
    refine lv_iconst (v := nI 1) hx hb dL_law_1256 (by decide) ?_
    refine m_iaddN hx hb dL_law_1257 ?_
    refine va_sld hx hb hX hbl hAb hI.2 (vp_in_nI (n := (4 * j) + 1) (by omega) (by omega)) dL_law_1258 ?_
    refine m_top (y := xs ((4 * j) + 1)) (by rw [nI_clamp (by omega)]) ?_
    refine m_stk (show ([.int (xs ((4 * j) + 1)), .ref (ad 50)] : List Value) = [.int p0, .ref (ad 50)] from by rw [hp0]) ?_
    refine m_callVi (As := [.int p0]) (rest := []) ⟨hx, hb, hml, hown, hts⟩ hE hI (c_X4_prints k l ad 57 g9 _ th uns play rd n lat gar T came mis lost bel fig u ln pg p0 (by omega) hW hmw hcame hM9) (cwV 1 hts gL_law_X4_prints rfl rfl rfl (by decide +kernel) ⟨Nat.le_of_ble_eq_true rfl, Nat.le_of_ble_eq_true rfl⟩) (i := 50) (by omega) hM9.1 rfl rfl hl.1 rfl (Nat.le_of_ble_eq_true rfl) dL_law_1259 ⟨by show 57 + j + 1 ≤ 601024; omega, by show 2023 + 6 * j + 6 ≤ 7293034; omega⟩ (fun r9 g4 H locs hp hI => ?_)
    obtain ⟨hp, hk4⟩ := hp
    rcases hp with ⟨hxo0, hr4, hM4⟩ | ⟨hxb0, hM4⟩
    · subst hr4
      have hC4 : CR k ad g4 uns play rd n lat gar T (came, mis, lost, bel, fig, fi, u, z, F) r := CR.kept hC9 (fun i hi => hk4 i (Or.inl hi))
      have h564 : g4 56 = .inl (k.2.1.2.2, 1, .inr (.inl fo1)) := (hk4 56 (by omega)).trans h561
      have hW4 : CW play rd n lat gar T := hW
      refine lv_istore (lv' := [(6, .int (nI (chF (T (tn p0)) (fa uns T (tn p0))))), (5, .int (nI 0)), (0, .ref b), (1, .ref (ad 0)), (2, .ref (ad 50)), (3, .ref (ad 56)), (4, .int (nI (4 * j)))]) hx hb dL_law_1262 hl (by decide) rfl (fun ls hl => ?_)
      refine lv_aload_n hx hb dL_law_1264 rfl (lv_at hl 4 rfl) ?_
      refine m_callVi (As := []) (rest := []) ⟨hx, hb, hml, hown, hts⟩ hE hI (c_X4_thrown k l ad 57 g4 _ 0 uns play rd n lat gar T came mis lost bel fig u ln pg (by omega) hW4 hmw (by omega) hM4) (cwV 0 hts gL_law_X4_thrown rfl rfl rfl (by decide +kernel) ⟨Nat.le_of_ble_eq_true rfl, Nat.le_of_ble_eq_true rfl⟩) (i := 50) (by omega) hM4.1 rfl rfl hl.1 rfl (Nat.le_of_ble_eq_true rfl) dL_law_1265 ⟨by show 57 + j + 1 ≤ 601024; omega, by show 2023 + 6 * j + 6 ≤ 7293034; omega⟩ (m_deti (fun H locs hI => ?_))
      refine lv_iload hx hb dL_law_1268 (lv_at hl 1 rfl) ?_
      refine m_ceqN (tgt := 1275) hx hb (by omega) (by omega) dL_law_1270 (by decide) (fun c_1270 => ?_) (fun c => absurd c (by decide))
      refine lv_iload hx hb dL_law_1275 (lv_at hl 1 rfl) ?_
      refine m_zneN (tgt := 1292) hx hb (by omega) dL_law_1277 (by decide) (fun c => absurd c (by decide)) (fun c_1277 => ?_)
      refine lv_aload_n hx hb dL_law_1280 rfl (lv_at hl 5 rfl) ?_
      refine lv_iconst (v := nI 0) hx hb dL_law_1281 (by decide) ?_
      refine m_lald hx hb hE hI 56 (by omega) (j := 0) h564 (by omega) (by omega) dL_law_1282 ?_
      refine lv_iload hx hb dL_law_1283 (lv_at hl 0 rfl) ?_
      refine lv_i2l (v := (nI (chF (T (tn p0)) (fa uns T (tn p0)))).toInt64) hx hb dL_law_1285 rfl ?_
      refine W.lcmp hx hb dL_law_1286 ?_
      refine m_top (y := nI 0) (show lg_cmp (fo1 0) ((nI (chF (T (tn p0)) (fa uns T (tn p0)))).toInt64) = nI 0 from by rw [nI_0]; refine (lg_cmp_eq _ _).mpr ?_; rw [hfo1]) ?_
      refine m_zeqN (tgt := 1292) hx hb (by omega) dL_law_1287 (by decide) (fun c_1287 => ?_) (fun c => absurd c (by decide))
      refine lv_goto (tgt := 1350) hx hb dL_law_1292 (by decide) ?_
      refine m_cs (c1 := 57 + (j + 1)) (s1 := 2023 + 6 * (j + 1)) (by omega) (by omega) ?_
      exact K d0 g4 H locs ls hd0 ⟨_, _, _, _, _, _, _, _, _, _, _, hC4, hM4, hY, hW4, hwf, hmw, (by show came ≤ 120 * (j + 1); omega), h564⟩ hI (lv_sub hl [2, 3, 4, 5, 6] rfl)
    · exact absurd (hok0.symm.trans hxb0) (by decide)
  · subst hr9
    rw [hgg] at hI
    refine lv_istore (lv' := [(5, .int (nI 1)), (0, .ref b), (1, .ref (ad 0)), (2, .ref (ad 50)), (3, .ref (ad 56)), (4, .int (nI (4 * j)))]) hx hb dL_law_1250 hl (by decide) rfl (fun ls hl => ?_)
    refine lv_aload_n hx hb dL_law_1252 rfl (lv_at hl 3 rfl) ?_
    refine lv_aload_n hx hb dL_law_1253 rfl (lv_at hl 1 rfl) ?_
    refine lv_iload hx hb dL_law_1254 (lv_at hl 5 rfl) ?_
    refine lv_iconst (v := nI 1) hx hb dL_law_1256 (by decide) ?_
    refine m_iaddN hx hb dL_law_1257 ?_
    refine va_sld hx hb hX hbl hAb hI.2 (vp_in_nI (n := (4 * j) + 1) (by omega) (by omega)) dL_law_1258 ?_
    refine m_top (y := xs ((4 * j) + 1)) (by rw [nI_clamp (by omega)]) ?_
    refine m_stk (show ([.int (xs ((4 * j) + 1)), .ref (ad 50)] : List Value) = [.int p0, .ref (ad 50)] from by rw [hp0]) ?_
    refine m_callVi (As := [.int p0]) (rest := []) ⟨hx, hb, hml, hown, hts⟩ hE hI (c_X4_prints k l ad 57 g _ th uns play rd n lat gar T came mis lost bel fig u ln pg p0 (by omega) hW hmw hcame hM) (cwV 1 hts gL_law_X4_prints rfl rfl rfl (by decide +kernel) ⟨Nat.le_of_ble_eq_true rfl, Nat.le_of_ble_eq_true rfl⟩) (i := 50) (by omega) hM.1 rfl rfl hl.1 rfl (Nat.le_of_ble_eq_true rfl) dL_law_1259 ⟨by show 57 + j + 1 ≤ 601024; omega, by show 2023 + 6 * j + 6 ≤ 7293034; omega⟩ (fun r9 g4 H locs hp hI => ?_)
    obtain ⟨hp, hk4⟩ := hp
    rcases hp with ⟨hxo0, hr4, hM4⟩ | ⟨hxb0, hM4⟩
    · exact absurd (hxo0.symm.trans hba0) (by decide)
    · refine lv_istore (lv' := [(6, .int r9), (5, .int (nI 1)), (0, .ref b), (1, .ref (ad 0)), (2, .ref (ad 50)), (3, .ref (ad 56)), (4, .int (nI (4 * j)))]) hx hb dL_law_1262 hl (by decide) rfl (fun ls hl => ?_)
      refine lv_aload_n hx hb dL_law_1264 rfl (lv_at hl 4 rfl) ?_
      refine m_callVi (As := []) (rest := []) ⟨hx, hb, hml, hown, hts⟩ hE hI (c_X4_thrown k l ad 57 g4 _ 1 uns play rd n lat gar T came mis lost bel fig u ln pg (by omega) hW hmw (by omega) hM4) (cwV 0 hts gL_law_X4_thrown rfl rfl rfl (by decide +kernel) ⟨Nat.le_of_ble_eq_true rfl, Nat.le_of_ble_eq_true rfl⟩) (i := 50) (by omega) hM4.1 rfl rfl hl.1 rfl (Nat.le_of_ble_eq_true rfl) dL_law_1265 ⟨by show 57 + j + 1 ≤ 601024; omega, by show 2023 + 6 * j + 6 ≤ 7293034; omega⟩ (m_deti (fun H locs hI => ?_))
      refine lv_iload hx hb dL_law_1268 (lv_at hl 1 rfl) ?_
      refine m_ceqN (tgt := 1275) hx hb (by omega) (by omega) dL_law_1270 (by decide) (fun c_1270 => ?_) (fun c => absurd c (by decide))
      refine lv_iload hx hb dL_law_1275 (lv_at hl 1 rfl) ?_
      refine m_zneN (tgt := 1292) hx hb (by omega) dL_law_1277 (by decide) (fun c_1277 => ?_) (fun c => absurd c (by decide))
      refine lv_goto (tgt := 1350) hx hb dL_law_1292 (by decide) ?_
      refine m_cs (c1 := 57 + (j + 1)) (s1 := 2023 + 6 * (j + 1)) (by omega) (by omega) ?_
      exact K d0 g4 H locs ls hd0 ⟨_, _, _, _, _, _, _, _, _, _, _, CR.kept hC (fun i hi => hk4 i (Or.inl hi)), hM4, hY, hW, hwf, hmw, (by show came ≤ 120 * (j + 1); omega), (hk4 56 (by omega)).trans h56⟩ hI (lv_sub hl [2, 3, 4, 5, 6] rfl)
