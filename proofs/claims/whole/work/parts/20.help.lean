theorem CR.kept {k : mC} {ad : Nat → Nat} {g g1 : Nat → va_E} {uns : Bool} {play rd n : Nat} {lat : Nat → Int32} {gar T : Nat → Nat} {y : YT PC} {r : Nat → Option Nat} (h : CR k ad g uns play rd n lat gar T y r) (hk : ∀ i, i < 50 → g1 i = g i) : CR k ad g1 uns play rd n lat gar T y r :=
  ⟨(hk 0 (by omega)).trans h.1, h.2.1.kept (fun i h1 h2 => hk i (by omega)), h.2.2.1.kept (fun i h1 h2 => hk i (by omega)), h.2.2.2.kept (hk 48 (by omega)) (hk 49 (by omega))⟩
set_option maxHeartbeats 8000000 in
set_option maxRecDepth 100000 in
theorem c_L_code (k : mC) (l : Launch) (hst : l.stackTraces = false) (ad : Nat → Nat) (N : Nat) (g : Nat → va_E) (sz : Nat) (uns : Bool) (play rd n : Nat) (lat : Nat → Int32) (gar T : Nat → Nat) (came : Nat) (mis lost bel : Int32) (fig : Bool) (fi u : Nat) (z : Nat → Nat) (F : Nat → Nat → Nat) (r : Nat → Option Nat) (p0 : Int32) (fo : Nat → Int64) (hN : 57 ≤ N) (hW : CW play rd n lat gar T) (hwf : cWf (fi, u, z, F)) (hcame : came < 2000000000) (hC : CR k ad g uns play rd n lat gar T (came, mis, lost, bel, fig, fi, u, z, F) r) (h56 : g 56 = .inl (k.2.1.2.2, 1, .inr (.inl fo))) : Met l yL_code wsL_code { frames := 7, cells := 1, slots := 6, locals := 103 } (mPc k ad N g sz [.ref (ad 0), .int p0, .ref (ad 56)]) (va_Qi (fun r1 g1 => (r1 = nI 0 ∧ inC p0 = true ∧ (∃ fo1 : Nat → Int64, g1 56 = .inl (k.2.1.2.2, 1, .inr (.inl fo1)) ∧ fo1 0 = (nI (cd (tn p0))).toInt64) ∧ CR k ad g1 uns play rd n lat gar T (came, mis, lost, bel, fig, fi, u, z, F) r ∧ ∀ i, 50 ≤ i → i ≠ 56 → g1 i = g i) ∨ (r1 = nI 1 ∧ inC p0 = false ∧ g1 = g)) (mB k ad N) (mA ad N sz)) 1 6 (mA ad N sz) := by
  refine mOfH (k := k) (l := l) (y := yL_code) (ws := wsL_code) (ad := ad) (N := N) (g := g) (sz := sz) (mc := 1) (ms := 6) (av := [.ref (ad 0), .int p0, .ref (ad 56)]) (Qc := fun z9 => va_Qi (fun r1 g1 => (r1 = nI 0 ∧ inC p0 = true ∧ (∃ fo1 : Nat → Int64, g1 56 = .inl (k.2.1.2.2, 1, .inr (.inl fo1)) ∧ fo1 0 = (nI (cd (tn p0))).toInt64) ∧ CR k ad g1 uns play rd n lat gar T (came, mis, lost, bel, fig, fi, u, z, F) r ∧ ∀ i, 50 ≤ i → i ≠ 56 → g1 i = g i) ∨ (r1 = nI 1 ∧ inC p0 = false ∧ g1 = g)) (mB k ad N) (mA ad N z9)) (cc := cL_code) (maxL := 4) (ret := (some .int)) (hh := [(0, 9, 12, 13)]) (by decide) rfl (Nat.le_of_ble_eq_true rfl) ?_
  intro p e s m below meth c hx hb hr hts hown hlocks hml htab hE hI ls hl
  have hl : lv_has ls 4 [(0, .ref (ad 0)), (1, .int p0), (2, .ref (ad 56))] := hl
  have h0 : g 0 = .inr (3, [.ref (ad 1), .ref (ad 6), .ref (ad 48), .int (nI rd), .int (bI fig), .int (bI uns), .int (nI came), .int mis, .int lost, .int bel]) := hC.1
  refine lv_aload_n hx hb dL_code_0 rfl (lv_at hl 2 rfl) ?_
  refine lv_iconst (v := nI 0) hx hb dL_code_1 (by decide) ?_
  refine lv_aload_n hx hb dL_code_2 rfl (lv_at hl 0 rfl) ?_
  refine lv_iload_n hx hb dL_code_3 rfl (lv_at hl 1 rfl) ?_
  refine m_callVx (As := [.int p0]) (rest := [.int (nI 0), .ref (ad 56)]) ⟨hx, hb, hml, hown, hts⟩ hE hI (c_X3_code k l hst ad N g _ uns play rd n lat gar T came mis lost bel fig fi u z F r p0 (by omega) hW hwf hcame hC) (cwV 1 hts gL_code_X3_code rfl rfl rfl (by decide +kernel) ⟨Nat.le_of_ble_eq_true rfl, Nat.le_of_ble_eq_true rfl⟩) (i := 0) (by omega) h0 rfl rfl hl.1 rfl (Nat.le_of_ble_eq_true rfl) dL_code_4 ⟨Nat.le_of_ble_eq_true rfl, Nat.le_of_ble_eq_true rfl⟩ (fun E ce q9 H locs hxp hI hce hcv hcl => ?_) (fun r9 g9 H locs hp hI => ?_)
  · obtain ⟨rfl, hbad0⟩ := hxp
    refine vx_catch hown [] _ [] htab (fun z9 hz9 => absurd hz9 List.not_mem_nil) rfl (by decide) (hts (.classLink RL 13 "java/lang/IndexOutOfBoundsException") (by decide +kernel)) (va_Nw.use rfl (hE.1.2.2.2.2.2.2.1 "java/lang/IndexOutOfBoundsException" (by decide))) hce hcv hcl ?_
    show W p l e _ s m _ below meth c _ _ _ _ _ (F0 m 12 ls [.ref q9])
    refine lv_astore_n (lv' := [(3, .ref q9), (0, .ref (ad 0)), (1, .int p0), (2, .ref (ad 56))]) hx hb dL_code_12 rfl hl (by decide) rfl (fun ls hl => ?_)
    refine lv_iconst (v := nI 1) hx hb dL_code_13 (by decide) ?_
    exact m_iret hx hb hr hlocks hI (Or.inr (⟨rfl, hbad0, rfl⟩)) dL_code_14
  · obtain ⟨hok0, hrr, hgg⟩ := hp
    rw [hgg] at hI
    subst hrr
    refine lv_i2l (v := (nI (cd (tn p0))).toInt64) hx hb dL_code_7 rfl ?_
    refine m_last hx hb hE hI 56 (by omega) (j := 0) h56 (by omega) (by omega) dL_code_8 (fun H locs hI => ?_)
    obtain ⟨g1, hg1⟩ : ∃ zz, zz = va_up g 56 (.inl (k.2.1.2.2, 1, .inr (.inl (vp_updL fo 0 ((nI (cd (tn p0))).toInt64))))) := ⟨_, rfl⟩
    replace hI : mI k ad N g1 (mA ad N s.heap.size) s H locs := by rw [hg1]; exact hI
    have m_1 : g1 56 = .inl (k.2.1.2.2, 1, .inr (.inl (vp_updL fo 0 ((nI (cd (tn p0))).toInt64)))) := by rw [hg1, va_up_self]
    refine lv_goto (tgt := 15) hx hb dL_code_9 (by decide) ?_
    refine lv_iconst (v := nI 0) hx hb dL_code_15 (by decide) ?_
    exact m_iret hx hb hr hlocks hI (Or.inl (⟨rfl, hok0, ⟨_, m_1, if_pos rfl⟩, CR.kept hC (fun i hi => by rw [hg1, va_up_ne _ _ (by omega)]), fun i h1 h2 => by rw [hg1, va_up_ne _ _ h2]⟩)) dL_code_16
set_option maxHeartbeats 8000000 in
set_option maxRecDepth 100000 in
theorem c_L_character (k : mC) (l : Launch) (hst : l.stackTraces = false) (ad : Nat → Nat) (N : Nat) (g : Nat → va_E) (sz : Nat) (uns : Bool) (play rd n : Nat) (lat : Nat → Int32) (gar T : Nat → Nat) (came : Nat) (mis lost bel : Int32) (fig : Bool) (fi u : Nat) (z : Nat → Nat) (F : Nat → Nat → Nat) (r : Nat → Option Nat) (p0 : Int32) (b0 : Bool) (fo : Nat → Int64) (hN : 57 ≤ N) (hW : CW play rd n lat gar T) (hwf : cWf (fi, u, z, F)) (hcame : came < 2000000000) (hC : CR k ad g uns play rd n lat gar T (came, mis, lost, bel, fig, fi, u, z, F) r) (h56 : g 56 = .inl (k.2.1.2.2, 1, .inr (.inl fo))) : Met l yL_character wsL_character { frames := 7, cells := 1, slots := 6, locals := 104 } (mPc k ad N g sz [.ref (ad 0), .int p0, .int (bI b0), .ref (ad 56)]) (va_Qi (fun r1 g1 => (r1 = nI 0 ∧ inN p0 32 = true ∧ (∃ fo1 : Nat → Int64, g1 56 = .inl (k.2.1.2.2, 1, .inr (.inl fo1)) ∧ fo1 0 = (nI (chF (tn p0) b0)).toInt64) ∧ CR k ad g1 uns play rd n lat gar T (came, mis, lost, bel, fig, fi, u, z, F) r ∧ ∀ i, 50 ≤ i → i ≠ 56 → g1 i = g i) ∨ (r1 = nI 1 ∧ inN p0 32 = false ∧ g1 = g)) (mB k ad N) (mA ad N sz)) 1 6 (mA ad N sz) := by
  refine mOfH (k := k) (l := l) (y := yL_character) (ws := wsL_character) (ad := ad) (N := N) (g := g) (sz := sz) (mc := 1) (ms := 6) (av := [.ref (ad 0), .int p0, .int (bI b0), .ref (ad 56)]) (Qc := fun z9 => va_Qi (fun r1 g1 => (r1 = nI 0 ∧ inN p0 32 = true ∧ (∃ fo1 : Nat → Int64, g1 56 = .inl (k.2.1.2.2, 1, .inr (.inl fo1)) ∧ fo1 0 = (nI (chF (tn p0) b0)).toInt64) ∧ CR k ad g1 uns play rd n lat gar T (came, mis, lost, bel, fig, fi, u, z, F) r ∧ ∀ i, 50 ≤ i → i ≠ 56 → g1 i = g i) ∨ (r1 = nI 1 ∧ inN p0 32 = false ∧ g1 = g)) (mB k ad N) (mA ad N z9)) (cc := cL_character) (maxL := 5) (ret := (some .int)) (hh := [(0, 10, 13, 13)]) (by decide) rfl (Nat.le_of_ble_eq_true rfl) ?_
  intro p e s m below meth c hx hb hr hts hown hlocks hml htab hE hI ls hl
  have hl : lv_has ls 5 [(0, .ref (ad 0)), (1, .int p0), (2, .int (bI b0)), (3, .ref (ad 56))] := hl
  have h0 : g 0 = .inr (3, [.ref (ad 1), .ref (ad 6), .ref (ad 48), .int (nI rd), .int (bI fig), .int (bI uns), .int (nI came), .int mis, .int lost, .int bel]) := hC.1
  refine lv_aload_n hx hb dL_character_0 rfl (lv_at hl 3 rfl) ?_
  refine lv_iconst (v := nI 0) hx hb dL_character_1 (by decide) ?_
  refine lv_aload_n hx hb dL_character_2 rfl (lv_at hl 0 rfl) ?_
  refine lv_iload_n hx hb dL_character_3 rfl (lv_at hl 1 rfl) ?_
  refine lv_iload_n hx hb dL_character_4 rfl (lv_at hl 2 rfl) ?_
  refine m_callVx (As := [.int p0, .int (bI b0)]) (rest := [.int (nI 0), .ref (ad 56)]) ⟨hx, hb, hml, hown, hts⟩ hE hI (c_X3_character k l hst ad N g _ uns play rd n lat gar T came mis lost bel fig fi u z F r p0 b0 (by omega) hW hwf hcame hC) (cwV 2 hts gL_character_X3_character rfl rfl rfl (by decide +kernel) ⟨Nat.le_of_ble_eq_true rfl, Nat.le_of_ble_eq_true rfl⟩) (i := 0) (by omega) h0 rfl rfl hl.1 rfl (Nat.le_of_ble_eq_true rfl) dL_character_5 ⟨Nat.le_of_ble_eq_true rfl, Nat.le_of_ble_eq_true rfl⟩ (fun E ce q9 H locs hxp hI hce hcv hcl => ?_) (fun r9 g9 H locs hp hI => ?_)
  · obtain ⟨rfl, hbad0⟩ := hxp
    refine vx_catch hown [] _ [] htab (fun z9 hz9 => absurd hz9 List.not_mem_nil) rfl (by decide) (hts (.classLink RL 13 "java/lang/IndexOutOfBoundsException") (by decide +kernel)) (va_Nw.use rfl (hE.1.2.2.2.2.2.2.1 "java/lang/IndexOutOfBoundsException" (by decide))) hce hcv hcl ?_
    show W p l e _ s m _ below meth c _ _ _ _ _ (F0 m 13 ls [.ref q9])
    refine lv_astore (lv' := [(4, .ref q9), (0, .ref (ad 0)), (1, .int p0), (2, .int (bI b0)), (3, .ref (ad 56))]) hx hb dL_character_13 hl (by decide) rfl (fun ls hl => ?_)
    refine lv_iconst (v := nI 1) hx hb dL_character_15 (by decide) ?_
    exact m_iret hx hb hr hlocks hI (Or.inr (⟨rfl, hbad0, rfl⟩)) dL_character_16
  · obtain ⟨hok0, hrr, hgg⟩ := hp
    rw [hgg] at hI
    subst hrr
    refine lv_i2l (v := (nI (chF (tn p0) b0)).toInt64) hx hb dL_character_8 rfl ?_
    refine m_last hx hb hE hI 56 (by omega) (j := 0) h56 (by omega) (by omega) dL_character_9 (fun H locs hI => ?_)
    obtain ⟨g1, hg1⟩ : ∃ zz, zz = va_up g 56 (.inl (k.2.1.2.2, 1, .inr (.inl (vp_updL fo 0 ((nI (chF (tn p0) b0)).toInt64))))) := ⟨_, rfl⟩
    replace hI : mI k ad N g1 (mA ad N s.heap.size) s H locs := by rw [hg1]; exact hI
    have m_1 : g1 56 = .inl (k.2.1.2.2, 1, .inr (.inl (vp_updL fo 0 ((nI (chF (tn p0) b0)).toInt64)))) := by rw [hg1, va_up_self]
    refine lv_goto (tgt := 17) hx hb dL_character_10 (by decide) ?_
    refine lv_iconst (v := nI 0) hx hb dL_character_17 (by decide) ?_
    exact m_iret hx hb hr hlocks hI (Or.inl (⟨rfl, hok0, ⟨_, m_1, if_pos rfl⟩, CR.kept hC (fun i hi => by rw [hg1, va_up_ne _ _ (by omega)]), fun i h1 h2 => by rw [hg1, va_up_ne _ _ h2]⟩)) dL_character_18
set_option maxHeartbeats 8000000 in
set_option maxRecDepth 100000 in
theorem c_L_apart (k : mC) (l : Launch) (hst : l.stackTraces = false) (ad : Nat → Nat) (N : Nat) (g : Nat → va_E) (sz : Nat) (uns : Bool) (play rd n : Nat) (lat : Nat → Int32) (gar T : Nat → Nat) (came : Nat) (mis lost bel : Int32) (fig : Bool) (fi u : Nat) (z : Nat → Nat) (F : Nat → Nat → Nat) (r : Nat → Option Nat) (p0 p1 : Int32) (fo : Nat → Int64) (hN : 57 ≤ N) (hW : CW play rd n lat gar T) (hwf : cWf (fi, u, z, F)) (hcame : came < 2000000000) (hC : CR k ad g uns play rd n lat gar T (came, mis, lost, bel, fig, fi, u, z, F) r) (h56 : g 56 = .inl (k.2.1.2.2, 1, .inr (.inl fo))) : Met l yL_apart wsL_apart { frames := 7, cells := 1, slots := 6, locals := 104 } (mPc k ad N g sz [.ref (ad 0), .int p0, .int p1, .ref (ad 56)]) (va_Qi (fun r1 g1 => (r1 = nI 0 ∧ (inC p0 && inC p1) = true ∧ (∃ fo1 : Nat → Int64, g1 56 = .inl (k.2.1.2.2, 1, .inr (.inl fo1)) ∧ fo1 0 = (nI (pc5 (cd (tn p0) ^^^ cd (tn p1)))).toInt64) ∧ CR k ad g1 uns play rd n lat gar T (came, mis, lost, bel, fig, fi, u, z, F) r ∧ ∀ i, 50 ≤ i → i ≠ 56 → g1 i = g i) ∨ (r1 = nI 1 ∧ (inC p0 && inC p1) = false ∧ g1 = g)) (mB k ad N) (mA ad N sz)) 1 6 (mA ad N sz) := by
  refine mOfH (k := k) (l := l) (y := yL_apart) (ws := wsL_apart) (ad := ad) (N := N) (g := g) (sz := sz) (mc := 1) (ms := 6) (av := [.ref (ad 0), .int p0, .int p1, .ref (ad 56)]) (Qc := fun z9 => va_Qi (fun r1 g1 => (r1 = nI 0 ∧ (inC p0 && inC p1) = true ∧ (∃ fo1 : Nat → Int64, g1 56 = .inl (k.2.1.2.2, 1, .inr (.inl fo1)) ∧ fo1 0 = (nI (pc5 (cd (tn p0) ^^^ cd (tn p1)))).toInt64) ∧ CR k ad g1 uns play rd n lat gar T (came, mis, lost, bel, fig, fi, u, z, F) r ∧ ∀ i, 50 ≤ i → i ≠ 56 → g1 i = g i) ∨ (r1 = nI 1 ∧ (inC p0 && inC p1) = false ∧ g1 = g)) (mB k ad N) (mA ad N z9)) (cc := cL_apart) (maxL := 5) (ret := (some .int)) (hh := [(0, 10, 13, 13)]) (by decide) rfl (Nat.le_of_ble_eq_true rfl) ?_
  intro p e s m below meth c hx hb hr hts hown hlocks hml htab hE hI ls hl
  have hl : lv_has ls 5 [(0, .ref (ad 0)), (1, .int p0), (2, .int p1), (3, .ref (ad 56))] := hl
  have h0 : g 0 = .inr (3, [.ref (ad 1), .ref (ad 6), .ref (ad 48), .int (nI rd), .int (bI fig), .int (bI uns), .int (nI came), .int mis, .int lost, .int bel]) := hC.1
  refine lv_aload_n hx hb dL_apart_0 rfl (lv_at hl 3 rfl) ?_
  refine lv_iconst (v := nI 0) hx hb dL_apart_1 (by decide) ?_
  refine lv_aload_n hx hb dL_apart_2 rfl (lv_at hl 0 rfl) ?_
  refine lv_iload_n hx hb dL_apart_3 rfl (lv_at hl 1 rfl) ?_
  refine lv_iload_n hx hb dL_apart_4 rfl (lv_at hl 2 rfl) ?_
  refine m_callVx (As := [.int p0, .int p1]) (rest := [.int (nI 0), .ref (ad 56)]) ⟨hx, hb, hml, hown, hts⟩ hE hI (c_X3_apart k l hst ad N g _ uns play rd n lat gar T came mis lost bel fig fi u z F r p0 p1 (by omega) hW hwf hcame hC) (cwV 2 hts gL_apart_X3_apart rfl rfl rfl (by decide +kernel) ⟨Nat.le_of_ble_eq_true rfl, Nat.le_of_ble_eq_true rfl⟩) (i := 0) (by omega) h0 rfl rfl hl.1 rfl (Nat.le_of_ble_eq_true rfl) dL_apart_5 ⟨Nat.le_of_ble_eq_true rfl, Nat.le_of_ble_eq_true rfl⟩ (fun E ce q9 H locs hxp hI hce hcv hcl => ?_) (fun r9 g9 H locs hp hI => ?_)
  · obtain ⟨rfl, hbad0⟩ := hxp
    refine vx_catch hown [] _ [] htab (fun z9 hz9 => absurd hz9 List.not_mem_nil) rfl (by decide) (hts (.classLink RL 13 "java/lang/IndexOutOfBoundsException") (by decide +kernel)) (va_Nw.use rfl (hE.1.2.2.2.2.2.2.1 "java/lang/IndexOutOfBoundsException" (by decide))) hce hcv hcl ?_
    show W p l e _ s m _ below meth c _ _ _ _ _ (F0 m 13 ls [.ref q9])
    refine lv_astore (lv' := [(4, .ref q9), (0, .ref (ad 0)), (1, .int p0), (2, .int p1), (3, .ref (ad 56))]) hx hb dL_apart_13 hl (by decide) rfl (fun ls hl => ?_)
    refine lv_iconst (v := nI 1) hx hb dL_apart_15 (by decide) ?_
    exact m_iret hx hb hr hlocks hI (Or.inr (⟨rfl, hbad0, rfl⟩)) dL_apart_16
  · obtain ⟨hok0, hrr, hgg⟩ := hp
    rw [hgg] at hI
    subst hrr
    refine lv_i2l (v := (nI (pc5 (cd (tn p0) ^^^ cd (tn p1)))).toInt64) hx hb dL_apart_8 rfl ?_
    refine m_last hx hb hE hI 56 (by omega) (j := 0) h56 (by omega) (by omega) dL_apart_9 (fun H locs hI => ?_)
    obtain ⟨g1, hg1⟩ : ∃ zz, zz = va_up g 56 (.inl (k.2.1.2.2, 1, .inr (.inl (vp_updL fo 0 ((nI (pc5 (cd (tn p0) ^^^ cd (tn p1)))).toInt64))))) := ⟨_, rfl⟩
    replace hI : mI k ad N g1 (mA ad N s.heap.size) s H locs := by rw [hg1]; exact hI
    have m_1 : g1 56 = .inl (k.2.1.2.2, 1, .inr (.inl (vp_updL fo 0 ((nI (pc5 (cd (tn p0) ^^^ cd (tn p1)))).toInt64)))) := by rw [hg1, va_up_self]
    refine lv_goto (tgt := 17) hx hb dL_apart_10 (by decide) ?_
    refine lv_iconst (v := nI 0) hx hb dL_apart_17 (by decide) ?_
    exact m_iret hx hb hr hlocks hI (Or.inl (⟨rfl, hok0, ⟨_, m_1, if_pos rfl⟩, CR.kept hC (fun i hi => by rw [hg1, va_up_ne _ _ (by omega)]), fun i h1 h2 => by rw [hg1, va_up_ne _ _ h2]⟩)) dL_apart_18
set_option maxHeartbeats 8000000 in
set_option maxRecDepth 100000 in
theorem c_L_doubts (k : mC) (l : Launch) (hst : l.stackTraces = false) (ad : Nat → Nat) (N : Nat) (g : Nat → va_E) (sz : Nat) (uns : Bool) (play rd n : Nat) (lat : Nat → Int32) (gar T : Nat → Nat) (came : Nat) (mis lost bel : Int32) (fig : Bool) (fi u : Nat) (z : Nat → Nat) (F : Nat → Nat → Nat) (r : Nat → Option Nat) (p0 : Int32) (fo : Nat → Int64) (hN : 57 ≤ N) (hW : CW play rd n lat gar T) (hwf : cWf (fi, u, z, F)) (hcame : came < 2000000000) (hC : CR k ad g uns play rd n lat gar T (came, mis, lost, bel, fig, fi, u, z, F) r) (h56 : g 56 = .inl (k.2.1.2.2, 1, .inr (.inl fo))) : Met l yL_doubts wsL_doubts { frames := 7, cells := 1, slots := 6, locals := 106 } (mPc k ad N g sz [.ref (ad 0), .int p0, .ref (ad 56)]) (va_Qi (fun r1 g1 => (r1 = nI 0 ∧ inN p0 32 = true ∧ (∃ fo1 : Nat → Int64, g1 56 = .inl (k.2.1.2.2, 1, .inr (.inl fo1)) ∧ fo1 0 = (nI (dbt (tn p0) fig 5)).toInt64) ∧ CR k ad g1 uns play rd n lat gar T (came, mis, lost, bel, fig, fi, u, z, F) r ∧ ∀ i, 50 ≤ i → i ≠ 56 → g1 i = g i) ∨ (r1 = nI 1 ∧ inN p0 32 = false ∧ g1 = g)) (mB k ad N) (mA ad N sz)) 1 6 (mA ad N sz) := by
  refine mOfH (k := k) (l := l) (y := yL_doubts) (ws := wsL_doubts) (ad := ad) (N := N) (g := g) (sz := sz) (mc := 1) (ms := 6) (av := [.ref (ad 0), .int p0, .ref (ad 56)]) (Qc := fun z9 => va_Qi (fun r1 g1 => (r1 = nI 0 ∧ inN p0 32 = true ∧ (∃ fo1 : Nat → Int64, g1 56 = .inl (k.2.1.2.2, 1, .inr (.inl fo1)) ∧ fo1 0 = (nI (dbt (tn p0) fig 5)).toInt64) ∧ CR k ad g1 uns play rd n lat gar T (came, mis, lost, bel, fig, fi, u, z, F) r ∧ ∀ i, 50 ≤ i → i ≠ 56 → g1 i = g i) ∨ (r1 = nI 1 ∧ inN p0 32 = false ∧ g1 = g)) (mB k ad N) (mA ad N z9)) (cc := cL_doubts) (maxL := 4) (ret := (some .int)) (hh := [(0, 9, 12, 13)]) (by decide) rfl (Nat.le_of_ble_eq_true rfl) ?_
  intro p e s m below meth c hx hb hr hts hown hlocks hml htab hE hI ls hl
  have hl : lv_has ls 4 [(0, .ref (ad 0)), (1, .int p0), (2, .ref (ad 56))] := hl
  have h0 : g 0 = .inr (3, [.ref (ad 1), .ref (ad 6), .ref (ad 48), .int (nI rd), .int (bI fig), .int (bI uns), .int (nI came), .int mis, .int lost, .int bel]) := hC.1
  refine lv_aload_n hx hb dL_doubts_0 rfl (lv_at hl 2 rfl) ?_
  refine lv_iconst (v := nI 0) hx hb dL_doubts_1 (by decide) ?_
  refine lv_aload_n hx hb dL_doubts_2 rfl (lv_at hl 0 rfl) ?_
  refine lv_iload_n hx hb dL_doubts_3 rfl (lv_at hl 1 rfl) ?_
  refine m_callVx (As := [.int p0]) (rest := [.int (nI 0), .ref (ad 56)]) ⟨hx, hb, hml, hown, hts⟩ hE hI (c_X3_doubts k l hst ad N g _ uns play rd n lat gar T came mis lost bel fig fi u z F r p0 (by omega) hW hwf hcame hC) (cwV 1 hts gL_doubts_X3_doubts rfl rfl rfl (by decide +kernel) ⟨Nat.le_of_ble_eq_true rfl, Nat.le_of_ble_eq_true rfl⟩) (i := 0) (by omega) h0 rfl rfl hl.1 rfl (Nat.le_of_ble_eq_true rfl) dL_doubts_4 ⟨Nat.le_of_ble_eq_true rfl, Nat.le_of_ble_eq_true rfl⟩ (fun E ce q9 H locs hxp hI hce hcv hcl => ?_) (fun r9 g9 H locs hp hI => ?_)
  · obtain ⟨rfl, hbad0⟩ := hxp
    refine vx_catch hown [] _ [] htab (fun z9 hz9 => absurd hz9 List.not_mem_nil) rfl (by decide) (hts (.classLink RL 13 "java/lang/IndexOutOfBoundsException") (by decide +kernel)) (va_Nw.use rfl (hE.1.2.2.2.2.2.2.1 "java/lang/IndexOutOfBoundsException" (by decide))) hce hcv hcl ?_
    show W p l e _ s m _ below meth c _ _ _ _ _ (F0 m 12 ls [.ref q9])
    refine lv_astore_n (lv' := [(3, .ref q9), (0, .ref (ad 0)), (1, .int p0), (2, .ref (ad 56))]) hx hb dL_doubts_12 rfl hl (by decide) rfl (fun ls hl => ?_)
    refine lv_iconst (v := nI 1) hx hb dL_doubts_13 (by decide) ?_
    exact m_iret hx hb hr hlocks hI (Or.inr (⟨rfl, hbad0, rfl⟩)) dL_doubts_14
  · obtain ⟨hok0, hrr, hgg⟩ := hp
    rw [hgg] at hI
    subst hrr
    refine lv_i2l (v := (nI (dbt (tn p0) fig 5)).toInt64) hx hb dL_doubts_7 rfl ?_
    refine m_last hx hb hE hI 56 (by omega) (j := 0) h56 (by omega) (by omega) dL_doubts_8 (fun H locs hI => ?_)
    obtain ⟨g1, hg1⟩ : ∃ zz, zz = va_up g 56 (.inl (k.2.1.2.2, 1, .inr (.inl (vp_updL fo 0 ((nI (dbt (tn p0) fig 5)).toInt64))))) := ⟨_, rfl⟩
    replace hI : mI k ad N g1 (mA ad N s.heap.size) s H locs := by rw [hg1]; exact hI
    have m_1 : g1 56 = .inl (k.2.1.2.2, 1, .inr (.inl (vp_updL fo 0 ((nI (dbt (tn p0) fig 5)).toInt64)))) := by rw [hg1, va_up_self]
    refine lv_goto (tgt := 15) hx hb dL_doubts_9 (by decide) ?_
    refine lv_iconst (v := nI 0) hx hb dL_doubts_15 (by decide) ?_
    exact m_iret hx hb hr hlocks hI (Or.inl (⟨rfl, hok0, ⟨_, m_1, if_pos rfl⟩, CR.kept hC (fun i hi => by rw [hg1, va_up_ne _ _ (by omega)]), fun i h1 h2 => by rw [hg1, va_up_ne _ _ h2]⟩)) dL_doubts_16
set_option maxHeartbeats 8000000 in
set_option maxRecDepth 100000 in
theorem c_L_setLine (k : mC) (l : Launch) (hst : l.stackTraces = false) (ad : Nat → Nat) (N : Nat) (g : Nat → va_E) (sz : Nat) (uns : Bool) (play rd n : Nat) (lat : Nat → Int32) (gar T : Nat → Nat) (came : Nat) (mis lost bel : Int32) (fig : Bool) (fi u : Nat) (z : Nat → Nat) (F : Nat → Nat → Nat) (r : Nat → Option Nat) (p0 p1 p2 : Int32) (fo : Nat → Int64) (hN : 57 ≤ N) (hW : CW play rd n lat gar T) (hwf : cWf (fi, u, z, F)) (hcame : came < 2000000000) (hC : CR k ad g uns play rd n lat gar T (came, mis, lost, bel, fig, fi, u, z, F) r) (h56 : g 56 = .inl (k.2.1.2.2, 1, .inr (.inl fo))) : Met l yL_setLine wsL_setLine { frames := 7, cells := 1, slots := 6, locals := 106 } (mPc k ad N g sz [.ref (ad 0), .int p0, .int p1, .int p2, .ref (ad 56)]) (va_Qi (fun r1 g1 => (r1 = nI 0 ∧ inN p0 16 = true ∧ (in9 p1 && inN p2 32) = true ∧ (∃ fo1 : Nat → Int64, g1 56 = .inl (k.2.1.2.2, 1, .inr (.inl fo1)) ∧ fo1 0 = (lat (tn p0)).toInt64) ∧ CR k ad g1 uns play rd n (upd lat (tn p0) p1) (va_up gar (tn p0) (tn p2)) T (came, mis, lost, bel, fig, fi, u, z, F) r ∧ ∀ i, 50 ≤ i → i ≠ 56 → g1 i = g i) ∨ (r1 = nI 1 ∧ inN p0 16 = false ∧ g1 = g) ∨ (r1 = nI 2 ∧ inN p0 16 = true ∧ (in9 p1 && inN p2 32) = false ∧ g1 = g)) (mB k ad N) (mA ad N sz)) 1 6 (mA ad N sz) := by
  refine mOfH (k := k) (l := l) (y := yL_setLine) (ws := wsL_setLine) (ad := ad) (N := N) (g := g) (sz := sz) (mc := 1) (ms := 6) (av := [.ref (ad 0), .int p0, .int p1, .int p2, .ref (ad 56)]) (Qc := fun z9 => va_Qi (fun r1 g1 => (r1 = nI 0 ∧ inN p0 16 = true ∧ (in9 p1 && inN p2 32) = true ∧ (∃ fo1 : Nat → Int64, g1 56 = .inl (k.2.1.2.2, 1, .inr (.inl fo1)) ∧ fo1 0 = (lat (tn p0)).toInt64) ∧ CR k ad g1 uns play rd n (upd lat (tn p0) p1) (va_up gar (tn p0) (tn p2)) T (came, mis, lost, bel, fig, fi, u, z, F) r ∧ ∀ i, 50 ≤ i → i ≠ 56 → g1 i = g i) ∨ (r1 = nI 1 ∧ inN p0 16 = false ∧ g1 = g) ∨ (r1 = nI 2 ∧ inN p0 16 = true ∧ (in9 p1 && inN p2 32) = false ∧ g1 = g)) (mB k ad N) (mA ad N z9)) (cc := cL_setLine) (maxL := 6) (ret := (some .int)) (hh := [(0, 12, 15, 13), (0, 12, 19, 30)]) (by decide) rfl (Nat.le_of_ble_eq_true rfl) ?_
  intro p e s m below meth c hx hb hr hts hown hlocks hml htab hE hI ls hl
  have hl : lv_has ls 6 [(0, .ref (ad 0)), (1, .int p0), (2, .int p1), (3, .int p2), (4, .ref (ad 56))] := hl
  have h0 : g 0 = .inr (3, [.ref (ad 1), .ref (ad 6), .ref (ad 48), .int (nI rd), .int (bI fig), .int (bI uns), .int (nI came), .int mis, .int lost, .int bel]) := hC.1
  refine lv_aload hx hb dL_setLine_0 (lv_at hl 4 rfl) ?_
  refine lv_iconst (v := nI 0) hx hb dL_setLine_2 (by decide) ?_
  refine lv_aload_n hx hb dL_setLine_3 rfl (lv_at hl 0 rfl) ?_
  refine lv_iload_n hx hb dL_setLine_4 rfl (lv_at hl 1 rfl) ?_
  refine lv_iload_n hx hb dL_setLine_5 rfl (lv_at hl 2 rfl) ?_
  refine lv_iload_n hx hb dL_setLine_6 rfl (lv_at hl 3 rfl) ?_
  refine m_callVx (As := [.int p0, .int p1, .int p2]) (rest := [.int (nI 0), .ref (ad 56)]) ⟨hx, hb, hml, hown, hts⟩ hE hI (c_X3_setLine k l hst ad N g _ uns play rd n lat gar T came mis lost bel fig fi u z F r p0 p1 p2 (by omega) hW hwf hcame hC) (cwV 3 hts gL_setLine_X3_setLine rfl rfl rfl (by decide +kernel) ⟨Nat.le_of_ble_eq_true rfl, Nat.le_of_ble_eq_true rfl⟩) (i := 0) (by omega) h0 rfl rfl hl.1 rfl (Nat.le_of_ble_eq_true rfl) dL_setLine_7 ⟨Nat.le_of_ble_eq_true rfl, Nat.le_of_ble_eq_true rfl⟩ (fun E ce q9 H locs hxp hI hce hcv hcl => ?_) (fun r9 g9 H locs hp hI => ?_)
  · rcases hxp with ⟨rfl, hbad0⟩ | ⟨rfl, hbad0, hbad1⟩
    · refine vx_catch hown [] _ [_] htab (fun z9 hz9 => absurd hz9 List.not_mem_nil) rfl (by decide) (hts (.classLink RL 13 "java/lang/IndexOutOfBoundsException") (by decide +kernel)) (va_Nw.use rfl (hE.1.2.2.2.2.2.2.1 "java/lang/IndexOutOfBoundsException" (by decide))) hce hcv hcl ?_
      show W p l e _ s m _ below meth c _ _ _ _ _ (F0 m 15 ls [.ref q9])
      refine lv_astore (lv' := [(5, .ref q9), (0, .ref (ad 0)), (1, .int p0), (2, .int p1), (3, .int p2), (4, .ref (ad 56))]) hx hb dL_setLine_15 hl (by decide) rfl (fun ls hl => ?_)
      refine lv_iconst (v := nI 1) hx hb dL_setLine_17 (by decide) ?_
      exact m_iret hx hb hr hlocks hI (Or.inr (Or.inl (⟨rfl, hbad0, rfl⟩))) dL_setLine_18
    · refine vx_catch hown [_] _ [] htab (fun z9 hz9 => by rcases List.mem_singleton.mp hz9 with rfl; exact Or.inr ⟨by decide, "java/lang/IndexOutOfBoundsException", hts (.classLink RL 13 "java/lang/IndexOutOfBoundsException") (by decide +kernel), hE.1.2.2.2.2.2.2.2.1⟩) rfl (by decide) (hts (.classLink RL 30 "java/lang/IllegalArgumentException") (by decide +kernel)) (va_Nw.use rfl (hE.1.2.2.2.2.2.2.1 "java/lang/IllegalArgumentException" (by decide))) hce hcv hcl ?_
      show W p l e _ s m _ below meth c _ _ _ _ _ (F0 m 19 ls [.ref q9])
      refine lv_astore (lv' := [(5, .ref q9), (0, .ref (ad 0)), (1, .int p0), (2, .int p1), (3, .int p2), (4, .ref (ad 56))]) hx hb dL_setLine_19 hl (by decide) rfl (fun ls hl => ?_)
      refine lv_iconst (v := nI 2) hx hb dL_setLine_21 (by decide) ?_
      exact m_iret hx hb hr hlocks hI (Or.inr (Or.inr (⟨rfl, hbad0, hbad1, rfl⟩))) dL_setLine_22
  · obtain ⟨hok0, hok1, hrr, hC9, hk9⟩ := hp
    have h569 : g9 56 = .inl (k.2.1.2.2, 1, .inr (.inl fo)) := (hk9 56 (by omega)).trans h56
    subst hrr
    refine lv_i2l (v := (lat (tn p0)).toInt64) hx hb dL_setLine_10 rfl ?_
    refine m_last hx hb hE hI 56 (by omega) (j := 0) h569 (by omega) (by omega) dL_setLine_11 (fun H locs hI => ?_)
    obtain ⟨g1, hg1⟩ : ∃ zz, zz = va_up g9 56 (.inl (k.2.1.2.2, 1, .inr (.inl (vp_updL fo 0 ((lat (tn p0)).toInt64))))) := ⟨_, rfl⟩
    replace hI : mI k ad N g1 (mA ad N s.heap.size) s H locs := by rw [hg1]; exact hI
    have m_1 : g1 56 = .inl (k.2.1.2.2, 1, .inr (.inl (vp_updL fo 0 ((lat (tn p0)).toInt64)))) := by rw [hg1, va_up_self]
    refine lv_goto (tgt := 23) hx hb dL_setLine_12 (by decide) ?_
    refine lv_iconst (v := nI 0) hx hb dL_setLine_23 (by decide) ?_
    exact m_iret hx hb hr hlocks hI (Or.inl (⟨rfl, hok0, hok1, ⟨_, m_1, if_pos rfl⟩, CR.kept hC9 (fun i hi => by rw [hg1, va_up_ne _ _ (by omega)]), fun i h1 h2 => by rw [hg1, va_up_ne _ _ h2, hk9 i h1]⟩)) dL_setLine_24
set_option maxHeartbeats 8000000 in
set_option maxRecDepth 100000 in
theorem c_L_setPlay (k : mC) (l : Launch) (hst : l.stackTraces = false) (ad : Nat → Nat) (N : Nat) (g : Nat → va_E) (sz : Nat) (uns : Bool) (play rd n : Nat) (lat : Nat → Int32) (gar T : Nat → Nat) (came : Nat) (mis lost bel : Int32) (fig : Bool) (fi u : Nat) (z : Nat → Nat) (F : Nat → Nat → Nat) (r : Nat → Option Nat) (p0 : Int32) (fo : Nat → Int64) (hN : 57 ≤ N) (hW : CW play rd n lat gar T) (hwf : cWf (fi, u, z, F)) (hcame : came < 2000000000) (hC : CR k ad g uns play rd n lat gar T (came, mis, lost, bel, fig, fi, u, z, F) r) (h56 : g 56 = .inl (k.2.1.2.2, 1, .inr (.inl fo))) : Met l yL_setPlay wsL_setPlay { frames := 7, cells := 1, slots := 6, locals := 104 } (mPc k ad N g sz [.ref (ad 0), .int p0, .ref (ad 56)]) (va_Qi (fun r1 g1 => (r1 = nI 0 ∧ inN p0 10 = true ∧ (∃ fo1 : Nat → Int64, g1 56 = .inl (k.2.1.2.2, 1, .inr (.inl fo1)) ∧ fo1 0 = (nI play).toInt64) ∧ CR k ad g1 uns (tn p0) rd n lat gar T (came, mis, lost, bel, fig, fi, u, z, F) r ∧ ∀ i, 50 ≤ i → i ≠ 56 → g1 i = g i) ∨ (r1 = nI 1 ∧ inN p0 10 = false ∧ g1 = g)) (mB k ad N) (mA ad N sz)) 1 6 (mA ad N sz) := by
  refine mOfH (k := k) (l := l) (y := yL_setPlay) (ws := wsL_setPlay) (ad := ad) (N := N) (g := g) (sz := sz) (mc := 1) (ms := 6) (av := [.ref (ad 0), .int p0, .ref (ad 56)]) (Qc := fun z9 => va_Qi (fun r1 g1 => (r1 = nI 0 ∧ inN p0 10 = true ∧ (∃ fo1 : Nat → Int64, g1 56 = .inl (k.2.1.2.2, 1, .inr (.inl fo1)) ∧ fo1 0 = (nI play).toInt64) ∧ CR k ad g1 uns (tn p0) rd n lat gar T (came, mis, lost, bel, fig, fi, u, z, F) r ∧ ∀ i, 50 ≤ i → i ≠ 56 → g1 i = g i) ∨ (r1 = nI 1 ∧ inN p0 10 = false ∧ g1 = g)) (mB k ad N) (mA ad N z9)) (cc := cL_setPlay) (maxL := 4) (ret := (some .int)) (hh := [(0, 9, 12, 30)]) (by decide) rfl (Nat.le_of_ble_eq_true rfl) ?_
  intro p e s m below meth c hx hb hr hts hown hlocks hml htab hE hI ls hl
  have hl : lv_has ls 4 [(0, .ref (ad 0)), (1, .int p0), (2, .ref (ad 56))] := hl
  have h0 : g 0 = .inr (3, [.ref (ad 1), .ref (ad 6), .ref (ad 48), .int (nI rd), .int (bI fig), .int (bI uns), .int (nI came), .int mis, .int lost, .int bel]) := hC.1
  refine lv_aload_n hx hb dL_setPlay_0 rfl (lv_at hl 2 rfl) ?_
  refine lv_iconst (v := nI 0) hx hb dL_setPlay_1 (by decide) ?_
  refine lv_aload_n hx hb dL_setPlay_2 rfl (lv_at hl 0 rfl) ?_
  refine lv_iload_n hx hb dL_setPlay_3 rfl (lv_at hl 1 rfl) ?_
  refine m_callVx (As := [.int p0]) (rest := [.int (nI 0), .ref (ad 56)]) ⟨hx, hb, hml, hown, hts⟩ hE hI (c_X3_setPlay k l hst ad N g _ uns play rd n lat gar T came mis lost bel fig fi u z F r p0 (by omega) hW hwf hcame hC) (cwV 1 hts gL_setPlay_X3_setPlay rfl rfl rfl (by decide +kernel) ⟨Nat.le_of_ble_eq_true rfl, Nat.le_of_ble_eq_true rfl⟩) (i := 0) (by omega) h0 rfl rfl hl.1 rfl (Nat.le_of_ble_eq_true rfl) dL_setPlay_4 ⟨Nat.le_of_ble_eq_true rfl, Nat.le_of_ble_eq_true rfl⟩ (fun E ce q9 H locs hxp hI hce hcv hcl => ?_) (fun r9 g9 H locs hp hI => ?_)
  · obtain ⟨rfl, hbad0⟩ := hxp
    refine vx_catch hown [] _ [] htab (fun z9 hz9 => absurd hz9 List.not_mem_nil) rfl (by decide) (hts (.classLink RL 30 "java/lang/IllegalArgumentException") (by decide +kernel)) (va_Nw.use rfl (hE.1.2.2.2.2.2.2.1 "java/lang/IllegalArgumentException" (by decide))) hce hcv hcl ?_
    show W p l e _ s m _ below meth c _ _ _ _ _ (F0 m 12 ls [.ref q9])
    refine lv_astore_n (lv' := [(3, .ref q9), (0, .ref (ad 0)), (1, .int p0), (2, .ref (ad 56))]) hx hb dL_setPlay_12 rfl hl (by decide) rfl (fun ls hl => ?_)
    refine lv_iconst (v := nI 1) hx hb dL_setPlay_13 (by decide) ?_
    exact m_iret hx hb hr hlocks hI (Or.inr (⟨rfl, hbad0, rfl⟩)) dL_setPlay_14
  · obtain ⟨hok0, hrr, hC9, hk9⟩ := hp
    have h569 : g9 56 = .inl (k.2.1.2.2, 1, .inr (.inl fo)) := (hk9 56 (by omega)).trans h56
    subst hrr
    refine lv_i2l (v := (nI play).toInt64) hx hb dL_setPlay_7 rfl ?_
    refine m_last hx hb hE hI 56 (by omega) (j := 0) h569 (by omega) (by omega) dL_setPlay_8 (fun H locs hI => ?_)
    obtain ⟨g1, hg1⟩ : ∃ zz, zz = va_up g9 56 (.inl (k.2.1.2.2, 1, .inr (.inl (vp_updL fo 0 ((nI play).toInt64))))) := ⟨_, rfl⟩
    replace hI : mI k ad N g1 (mA ad N s.heap.size) s H locs := by rw [hg1]; exact hI
    have m_1 : g1 56 = .inl (k.2.1.2.2, 1, .inr (.inl (vp_updL fo 0 ((nI play).toInt64)))) := by rw [hg1, va_up_self]
    refine lv_goto (tgt := 15) hx hb dL_setPlay_9 (by decide) ?_
    refine lv_iconst (v := nI 0) hx hb dL_setPlay_15 (by decide) ?_
    exact m_iret hx hb hr hlocks hI (Or.inl (⟨rfl, hok0, ⟨_, m_1, if_pos rfl⟩, CR.kept hC9 (fun i hi => by rw [hg1, va_up_ne _ _ (by omega)]), fun i h1 h2 => by rw [hg1, va_up_ne _ _ h2, hk9 i h1]⟩)) dL_setPlay_16
set_option maxHeartbeats 8000000 in
set_option maxRecDepth 100000 in
theorem c_L_receive (k : mC) (l : Launch) (hst : l.stackTraces = false) (ad : Nat → Nat) (N : Nat) (g : Nat → va_E) (sz : Nat) (uns : Bool) (play rd n : Nat) (lat : Nat → Int32) (gar T : Nat → Nat) (came : Nat) (mis lost bel : Int32) (fig : Bool) (fi u : Nat) (z : Nat → Nat) (F : Nat → Nat → Nat) (r : Nat → Option Nat) (p0 : Int32) (fo : Nat → Int64) (hN : 57 ≤ N) (hW : CW play rd n lat gar T) (hwf : cWf (fi, u, z, F)) (hcame : came < 2000000000) (hC : CR k ad g uns play rd n lat gar T (came, mis, lost, bel, fig, fi, u, z, F) r) (h56 : g 56 = .inl (k.2.1.2.2, 1, .inr (.inl fo))) : Met l yL_receive wsL_receive { frames := 7, cells := 1, slots := 6, locals := 128 } (mPc k ad N g sz [.ref (ad 0), .int p0, .ref (ad 56)]) (va_Qi (fun r1 g1 => (r1 = nI 0 ∧ inN p0 32 = true ∧ (∃ fo1 : Nat → Int64, g1 56 = .inl (k.2.1.2.2, 1, .inr (.inl fo1)) ∧ fo1 0 = (nI (rdY play lat gar came (tn p0))).toInt64) ∧ CR k ad g1 uns play rd n lat gar T (yIn cNl cFull cAdd uns play lat gar (tn p0) (came, mis, lost, bel, fig, fi, u, z, F)) r ∧ ∀ i, 50 ≤ i → i ≠ 56 → g1 i = g i) ∨ (r1 = nI 1 ∧ inN p0 32 = false ∧ g1 = g)) (mB k ad N) (mA ad N sz)) 1 6 (mA ad N sz) := by
  refine mOfH (k := k) (l := l) (y := yL_receive) (ws := wsL_receive) (ad := ad) (N := N) (g := g) (sz := sz) (mc := 1) (ms := 6) (av := [.ref (ad 0), .int p0, .ref (ad 56)]) (Qc := fun z9 => va_Qi (fun r1 g1 => (r1 = nI 0 ∧ inN p0 32 = true ∧ (∃ fo1 : Nat → Int64, g1 56 = .inl (k.2.1.2.2, 1, .inr (.inl fo1)) ∧ fo1 0 = (nI (rdY play lat gar came (tn p0))).toInt64) ∧ CR k ad g1 uns play rd n lat gar T (yIn cNl cFull cAdd uns play lat gar (tn p0) (came, mis, lost, bel, fig, fi, u, z, F)) r ∧ ∀ i, 50 ≤ i → i ≠ 56 → g1 i = g i) ∨ (r1 = nI 1 ∧ inN p0 32 = false ∧ g1 = g)) (mB k ad N) (mA ad N z9)) (cc := cL_receive) (maxL := 4) (ret := (some .int)) (hh := [(0, 9, 12, 13)]) (by decide) rfl (Nat.le_of_ble_eq_true rfl) ?_
  intro p e s m below meth c hx hb hr hts hown hlocks hml htab hE hI ls hl
  have hl : lv_has ls 4 [(0, .ref (ad 0)), (1, .int p0), (2, .ref (ad 56))] := hl
  have h0 : g 0 = .inr (3, [.ref (ad 1), .ref (ad 6), .ref (ad 48), .int (nI rd), .int (bI fig), .int (bI uns), .int (nI came), .int mis, .int lost, .int bel]) := hC.1
  refine lv_aload_n hx hb dL_receive_0 rfl (lv_at hl 2 rfl) ?_
  refine lv_iconst (v := nI 0) hx hb dL_receive_1 (by decide) ?_
  refine lv_aload_n hx hb dL_receive_2 rfl (lv_at hl 0 rfl) ?_
  refine lv_iload_n hx hb dL_receive_3 rfl (lv_at hl 1 rfl) ?_
  refine m_callVx (As := [.int p0]) (rest := [.int (nI 0), .ref (ad 56)]) ⟨hx, hb, hml, hown, hts⟩ hE hI (c_X3_receive k l hst ad N g _ uns play rd n lat gar T came mis lost bel fig fi u z F r p0 (by omega) hW hwf hcame hC) (cwV 1 hts gL_receive_X3_receive rfl rfl rfl (by decide +kernel) ⟨Nat.le_of_ble_eq_true rfl, Nat.le_of_ble_eq_true rfl⟩) (i := 0) (by omega) h0 rfl rfl hl.1 rfl (Nat.le_of_ble_eq_true rfl) dL_receive_4 ⟨Nat.le_of_ble_eq_true rfl, Nat.le_of_ble_eq_true rfl⟩ (fun E ce q9 H locs hxp hI hce hcv hcl => ?_) (fun r9 g9 H locs hp hI => ?_)
  · obtain ⟨rfl, hbad0⟩ := hxp
    refine vx_catch hown [] _ [] htab (fun z9 hz9 => absurd hz9 List.not_mem_nil) rfl (by decide) (hts (.classLink RL 13 "java/lang/IndexOutOfBoundsException") (by decide +kernel)) (va_Nw.use rfl (hE.1.2.2.2.2.2.2.1 "java/lang/IndexOutOfBoundsException" (by decide))) hce hcv hcl ?_
    show W p l e _ s m _ below meth c _ _ _ _ _ (F0 m 12 ls [.ref q9])
    refine lv_astore_n (lv' := [(3, .ref q9), (0, .ref (ad 0)), (1, .int p0), (2, .ref (ad 56))]) hx hb dL_receive_12 rfl hl (by decide) rfl (fun ls hl => ?_)
    refine lv_iconst (v := nI 1) hx hb dL_receive_13 (by decide) ?_
    exact m_iret hx hb hr hlocks hI (Or.inr (⟨rfl, hbad0, rfl⟩)) dL_receive_14
  · obtain ⟨hok0, hrr, hC9, hk9⟩ := hp
    have h569 : g9 56 = .inl (k.2.1.2.2, 1, .inr (.inl fo)) := (hk9 56 (by omega)).trans h56
    subst hrr
    refine lv_i2l (v := (nI (rdY play lat gar came (tn p0))).toInt64) hx hb dL_receive_7 rfl ?_
    refine m_last hx hb hE hI 56 (by omega) (j := 0) h569 (by omega) (by omega) dL_receive_8 (fun H locs hI => ?_)
    obtain ⟨g1, hg1⟩ : ∃ zz, zz = va_up g9 56 (.inl (k.2.1.2.2, 1, .inr (.inl (vp_updL fo 0 ((nI (rdY play lat gar came (tn p0))).toInt64))))) := ⟨_, rfl⟩
    replace hI : mI k ad N g1 (mA ad N s.heap.size) s H locs := by rw [hg1]; exact hI
    have m_1 : g1 56 = .inl (k.2.1.2.2, 1, .inr (.inl (vp_updL fo 0 ((nI (rdY play lat gar came (tn p0))).toInt64)))) := by rw [hg1, va_up_self]
    refine lv_goto (tgt := 15) hx hb dL_receive_9 (by decide) ?_
    refine lv_iconst (v := nI 0) hx hb dL_receive_15 (by decide) ?_
    exact m_iret hx hb hr hlocks hI (Or.inl (⟨rfl, hok0, ⟨_, m_1, if_pos rfl⟩, CR.kept hC9 (fun i hi => by rw [hg1, va_up_ne _ _ (by omega)]), fun i h1 h2 => by rw [hg1, va_up_ne _ _ h2, hk9 i h1]⟩)) dL_receive_16
set_option maxHeartbeats 8000000 in
set_option maxRecDepth 100000 in
theorem c_L_punch (k : mC) (l : Launch) (hst : l.stackTraces = false) (ad : Nat → Nat) (N : Nat) (g : Nat → va_E) (sz : Nat) (uns : Bool) (play rd n : Nat) (lat : Nat → Int32) (gar T : Nat → Nat) (came : Nat) (mis lost bel : Int32) (fig : Bool) (fi u : Nat) (z : Nat → Nat) (F : Nat → Nat → Nat) (r : Nat → Option Nat) (p0 : Int32) (fo : Nat → Int64) (hN : 57 ≤ N) (hW : CW play rd n lat gar T) (hwf : cWf (fi, u, z, F)) (hcame : came < 2000000000) (hC : CR k ad g uns play rd n lat gar T (came, mis, lost, bel, fig, fi, u, z, F) r) (h56 : g 56 = .inl (k.2.1.2.2, 1, .inr (.inl fo))) : Met l yL_punch wsL_punch { frames := 7, cells := 1, slots := 6, locals := 103 } (mPc k ad N g sz [.ref (ad 0), .int p0, .ref (ad 56)]) (va_Qi (fun r1 g1 => (r1 = nI 0 ∧ inN p0 32 = true ∧ n < 120 ∧ (∃ fo1 : Nat → Int64, g1 56 = .inl (k.2.1.2.2, 1, .inr (.inl fo1)) ∧ fo1 0 = (nI (n + 1)).toInt64) ∧ CR k ad g1 uns play rd (n + 1) lat gar (va_up T n (tn p0)) (came, mis, lost, bel, fig, fi, u, z, F) r ∧ ∀ i, 50 ≤ i → i ≠ 56 → g1 i = g i) ∨ (r1 = nI 1 ∧ inN p0 32 = false ∧ g1 = g) ∨ (r1 = nI 2 ∧ inN p0 32 = true ∧ n = 120 ∧ g1 = g)) (mB k ad N) (mA ad N sz)) 1 6 (mA ad N sz) := by
  refine mOfH (k := k) (l := l) (y := yL_punch) (ws := wsL_punch) (ad := ad) (N := N) (g := g) (sz := sz) (mc := 1) (ms := 6) (av := [.ref (ad 0), .int p0, .ref (ad 56)]) (Qc := fun z9 => va_Qi (fun r1 g1 => (r1 = nI 0 ∧ inN p0 32 = true ∧ n < 120 ∧ (∃ fo1 : Nat → Int64, g1 56 = .inl (k.2.1.2.2, 1, .inr (.inl fo1)) ∧ fo1 0 = (nI (n + 1)).toInt64) ∧ CR k ad g1 uns play rd (n + 1) lat gar (va_up T n (tn p0)) (came, mis, lost, bel, fig, fi, u, z, F) r ∧ ∀ i, 50 ≤ i → i ≠ 56 → g1 i = g i) ∨ (r1 = nI 1 ∧ inN p0 32 = false ∧ g1 = g) ∨ (r1 = nI 2 ∧ inN p0 32 = true ∧ n = 120 ∧ g1 = g)) (mB k ad N) (mA ad N z9)) (cc := cL_punch) (maxL := 4) (ret := (some .int)) (hh := [(0, 9, 12, 13), (0, 9, 15, 41)]) (by decide) rfl (Nat.le_of_ble_eq_true rfl) ?_
  intro p e s m below meth c hx hb hr hts hown hlocks hml htab hE hI ls hl
  have hl : lv_has ls 4 [(0, .ref (ad 0)), (1, .int p0), (2, .ref (ad 56))] := hl
  have h0 : g 0 = .inr (3, [.ref (ad 1), .ref (ad 6), .ref (ad 48), .int (nI rd), .int (bI fig), .int (bI uns), .int (nI came), .int mis, .int lost, .int bel]) := hC.1
  refine lv_aload_n hx hb dL_punch_0 rfl (lv_at hl 2 rfl) ?_
  refine lv_iconst (v := nI 0) hx hb dL_punch_1 (by decide) ?_
  refine lv_aload_n hx hb dL_punch_2 rfl (lv_at hl 0 rfl) ?_
  refine lv_iload_n hx hb dL_punch_3 rfl (lv_at hl 1 rfl) ?_
  refine m_callVx (As := [.int p0]) (rest := [.int (nI 0), .ref (ad 56)]) ⟨hx, hb, hml, hown, hts⟩ hE hI (c_X3_punch k l hst ad N g _ uns play rd n lat gar T came mis lost bel fig fi u z F r p0 (by omega) hW hwf hcame hC) (cwV 1 hts gL_punch_X3_punch rfl rfl rfl (by decide +kernel) ⟨Nat.le_of_ble_eq_true rfl, Nat.le_of_ble_eq_true rfl⟩) (i := 0) (by omega) h0 rfl rfl hl.1 rfl (Nat.le_of_ble_eq_true rfl) dL_punch_4 ⟨Nat.le_of_ble_eq_true rfl, Nat.le_of_ble_eq_true rfl⟩ (fun E ce q9 H locs hxp hI hce hcv hcl => ?_) (fun r9 g9 H locs hp hI => ?_)
  · rcases hxp with ⟨rfl, hbad0⟩ | ⟨rfl, hbad0, hbad1⟩
    · refine vx_catch hown [] _ [_] htab (fun z9 hz9 => absurd hz9 List.not_mem_nil) rfl (by decide) (hts (.classLink RL 13 "java/lang/IndexOutOfBoundsException") (by decide +kernel)) (va_Nw.use rfl (hE.1.2.2.2.2.2.2.1 "java/lang/IndexOutOfBoundsException" (by decide))) hce hcv hcl ?_
      show W p l e _ s m _ below meth c _ _ _ _ _ (F0 m 12 ls [.ref q9])
      refine lv_astore_n (lv' := [(3, .ref q9), (0, .ref (ad 0)), (1, .int p0), (2, .ref (ad 56))]) hx hb dL_punch_12 rfl hl (by decide) rfl (fun ls hl => ?_)
      refine lv_iconst (v := nI 1) hx hb dL_punch_13 (by decide) ?_
      exact m_iret hx hb hr hlocks hI (Or.inr (Or.inl (⟨rfl, hbad0, rfl⟩))) dL_punch_14
    · refine vx_catch hown [_] _ [] htab (fun z9 hz9 => by rcases List.mem_singleton.mp hz9 with rfl; exact Or.inr ⟨by decide, "java/lang/IndexOutOfBoundsException", hts (.classLink RL 13 "java/lang/IndexOutOfBoundsException") (by decide +kernel), hE.1.2.2.2.2.2.2.2.2⟩) rfl (by decide) (hts (.classLink RL 41 "java/lang/IllegalStateException") (by decide +kernel)) (va_Nw.use rfl (hE.1.2.2.2.2.2.2.1 "java/lang/IllegalStateException" (by decide))) hce hcv hcl ?_
      show W p l e _ s m _ below meth c _ _ _ _ _ (F0 m 15 ls [.ref q9])
      refine lv_astore_n (lv' := [(3, .ref q9), (0, .ref (ad 0)), (1, .int p0), (2, .ref (ad 56))]) hx hb dL_punch_15 rfl hl (by decide) rfl (fun ls hl => ?_)
      refine lv_iconst (v := nI 2) hx hb dL_punch_16 (by decide) ?_
      exact m_iret hx hb hr hlocks hI (Or.inr (Or.inr (⟨rfl, hbad0, hbad1, rfl⟩))) dL_punch_17
  · obtain ⟨hok0, hok1, hrr, hC9, hk9⟩ := hp
    have h569 : g9 56 = .inl (k.2.1.2.2, 1, .inr (.inl fo)) := (hk9 56 (by omega)).trans h56
    subst hrr
    refine lv_i2l (v := (nI (n + 1)).toInt64) hx hb dL_punch_7 rfl ?_
    refine m_last hx hb hE hI 56 (by omega) (j := 0) h569 (by omega) (by omega) dL_punch_8 (fun H locs hI => ?_)
    obtain ⟨g1, hg1⟩ : ∃ zz, zz = va_up g9 56 (.inl (k.2.1.2.2, 1, .inr (.inl (vp_updL fo 0 ((nI (n + 1)).toInt64))))) := ⟨_, rfl⟩
    replace hI : mI k ad N g1 (mA ad N s.heap.size) s H locs := by rw [hg1]; exact hI
    have m_1 : g1 56 = .inl (k.2.1.2.2, 1, .inr (.inl (vp_updL fo 0 ((nI (n + 1)).toInt64)))) := by rw [hg1, va_up_self]
    refine lv_goto (tgt := 18) hx hb dL_punch_9 (by decide) ?_
    refine lv_iconst (v := nI 0) hx hb dL_punch_18 (by decide) ?_
    exact m_iret hx hb hr hlocks hI (Or.inl (⟨rfl, hok0, hok1, ⟨_, m_1, if_pos rfl⟩, CR.kept hC9 (fun i hi => by rw [hg1, va_up_ne _ _ (by omega)]), fun i h1 h2 => by rw [hg1, va_up_ne _ _ h2, hk9 i h1]⟩)) dL_punch_19
set_option maxHeartbeats 8000000 in
set_option maxRecDepth 100000 in
theorem c_L_type (k : mC) (l : Launch) (hst : l.stackTraces = false) (ad : Nat → Nat) (N : Nat) (g : Nat → va_E) (sz : Nat) (uns : Bool) (play rd n : Nat) (lat : Nat → Int32) (gar T : Nat → Nat) (came : Nat) (mis lost bel : Int32) (fig : Bool) (fi u : Nat) (z : Nat → Nat) (F : Nat → Nat → Nat) (r : Nat → Option Nat) (p0 : Int32) (fo : Nat → Int64) (hN : 57 ≤ N) (hW : CW play rd n lat gar T) (hwf : cWf (fi, u, z, F)) (hcame : came < 2000000000) (hC : CR k ad g uns play rd n lat gar T (came, mis, lost, bel, fig, fi, u, z, F) r) (h56 : g 56 = .inl (k.2.1.2.2, 1, .inr (.inl fo))) : Met l yL_type wsL_type { frames := 7, cells := 1, slots := 6, locals := 110 } (mPc k ad N g sz [.ref (ad 0), .int p0, .ref (ad 56)]) (va_Qi (fun r1 g1 => (r1 = nI 0 ∧ inC p0 = true ∧ n + tyN uns T n (tn p0) ≤ 120 ∧ (∃ fo1 : Nat → Int64, g1 56 = .inl (k.2.1.2.2, 1, .inr (.inl fo1)) ∧ fo1 0 = (nI (tyN uns T n (tn p0))).toInt64) ∧ CR k ad g1 uns play rd (n + tyN uns T n (tn p0)) lat gar (tyT uns T n (tn p0)) (came, mis, lost, bel, fig, fi, u, z, F) r ∧ ∀ i, 50 ≤ i → i ≠ 56 → g1 i = g i) ∨ (r1 = nI 1 ∧ inC p0 = false ∧ g1 = g) ∨ (r1 = nI 2 ∧ inC p0 = true ∧ 120 < n + tyN uns T n (tn p0) ∧ g1 = g)) (mB k ad N) (mA ad N sz)) 1 6 (mA ad N sz) := by
  refine mOfH (k := k) (l := l) (y := yL_type) (ws := wsL_type) (ad := ad) (N := N) (g := g) (sz := sz) (mc := 1) (ms := 6) (av := [.ref (ad 0), .int p0, .ref (ad 56)]) (Qc := fun z9 => va_Qi (fun r1 g1 => (r1 = nI 0 ∧ inC p0 = true ∧ n + tyN uns T n (tn p0) ≤ 120 ∧ (∃ fo1 : Nat → Int64, g1 56 = .inl (k.2.1.2.2, 1, .inr (.inl fo1)) ∧ fo1 0 = (nI (tyN uns T n (tn p0))).toInt64) ∧ CR k ad g1 uns play rd (n + tyN uns T n (tn p0)) lat gar (tyT uns T n (tn p0)) (came, mis, lost, bel, fig, fi, u, z, F) r ∧ ∀ i, 50 ≤ i → i ≠ 56 → g1 i = g i) ∨ (r1 = nI 1 ∧ inC p0 = false ∧ g1 = g) ∨ (r1 = nI 2 ∧ inC p0 = true ∧ 120 < n + tyN uns T n (tn p0) ∧ g1 = g)) (mB k ad N) (mA ad N z9)) (cc := cL_type) (maxL := 4) (ret := (some .int)) (hh := [(0, 9, 12, 13), (0, 9, 15, 41)]) (by decide) rfl (Nat.le_of_ble_eq_true rfl) ?_
  intro p e s m below meth c hx hb hr hts hown hlocks hml htab hE hI ls hl
  have hl : lv_has ls 4 [(0, .ref (ad 0)), (1, .int p0), (2, .ref (ad 56))] := hl
  have h0 : g 0 = .inr (3, [.ref (ad 1), .ref (ad 6), .ref (ad 48), .int (nI rd), .int (bI fig), .int (bI uns), .int (nI came), .int mis, .int lost, .int bel]) := hC.1
  refine lv_aload_n hx hb dL_type_0 rfl (lv_at hl 2 rfl) ?_
  refine lv_iconst (v := nI 0) hx hb dL_type_1 (by decide) ?_
  refine lv_aload_n hx hb dL_type_2 rfl (lv_at hl 0 rfl) ?_
  refine lv_iload_n hx hb dL_type_3 rfl (lv_at hl 1 rfl) ?_
  refine m_callVx (As := [.int p0]) (rest := [.int (nI 0), .ref (ad 56)]) ⟨hx, hb, hml, hown, hts⟩ hE hI (c_X3_type k l hst ad N g _ uns play rd n lat gar T came mis lost bel fig fi u z F r p0 (by omega) hW hwf hcame hC) (cwV 1 hts gL_type_X3_type rfl rfl rfl (by decide +kernel) ⟨Nat.le_of_ble_eq_true rfl, Nat.le_of_ble_eq_true rfl⟩) (i := 0) (by omega) h0 rfl rfl hl.1 rfl (Nat.le_of_ble_eq_true rfl) dL_type_4 ⟨Nat.le_of_ble_eq_true rfl, Nat.le_of_ble_eq_true rfl⟩ (fun E ce q9 H locs hxp hI hce hcv hcl => ?_) (fun r9 g9 H locs hp hI => ?_)
  · rcases hxp with ⟨rfl, hbad0⟩ | ⟨rfl, hbad0, hbad1⟩
    · refine vx_catch hown [] _ [_] htab (fun z9 hz9 => absurd hz9 List.not_mem_nil) rfl (by decide) (hts (.classLink RL 13 "java/lang/IndexOutOfBoundsException") (by decide +kernel)) (va_Nw.use rfl (hE.1.2.2.2.2.2.2.1 "java/lang/IndexOutOfBoundsException" (by decide))) hce hcv hcl ?_
      show W p l e _ s m _ below meth c _ _ _ _ _ (F0 m 12 ls [.ref q9])
      refine lv_astore_n (lv' := [(3, .ref q9), (0, .ref (ad 0)), (1, .int p0), (2, .ref (ad 56))]) hx hb dL_type_12 rfl hl (by decide) rfl (fun ls hl => ?_)
      refine lv_iconst (v := nI 1) hx hb dL_type_13 (by decide) ?_
      exact m_iret hx hb hr hlocks hI (Or.inr (Or.inl (⟨rfl, hbad0, rfl⟩))) dL_type_14
    · refine vx_catch hown [_] _ [] htab (fun z9 hz9 => by rcases List.mem_singleton.mp hz9 with rfl; exact Or.inr ⟨by decide, "java/lang/IndexOutOfBoundsException", hts (.classLink RL 13 "java/lang/IndexOutOfBoundsException") (by decide +kernel), hE.1.2.2.2.2.2.2.2.2⟩) rfl (by decide) (hts (.classLink RL 41 "java/lang/IllegalStateException") (by decide +kernel)) (va_Nw.use rfl (hE.1.2.2.2.2.2.2.1 "java/lang/IllegalStateException" (by decide))) hce hcv hcl ?_
      show W p l e _ s m _ below meth c _ _ _ _ _ (F0 m 15 ls [.ref q9])
      refine lv_astore_n (lv' := [(3, .ref q9), (0, .ref (ad 0)), (1, .int p0), (2, .ref (ad 56))]) hx hb dL_type_15 rfl hl (by decide) rfl (fun ls hl => ?_)
      refine lv_iconst (v := nI 2) hx hb dL_type_16 (by decide) ?_
      exact m_iret hx hb hr hlocks hI (Or.inr (Or.inr (⟨rfl, hbad0, hbad1, rfl⟩))) dL_type_17
  · obtain ⟨hok0, hok1, hrr, hC9, hk9⟩ := hp
    have h569 : g9 56 = .inl (k.2.1.2.2, 1, .inr (.inl fo)) := (hk9 56 (by omega)).trans h56
    subst hrr
    refine lv_i2l (v := (nI (tyN uns T n (tn p0))).toInt64) hx hb dL_type_7 rfl ?_
    refine m_last hx hb hE hI 56 (by omega) (j := 0) h569 (by omega) (by omega) dL_type_8 (fun H locs hI => ?_)
    obtain ⟨g1, hg1⟩ : ∃ zz, zz = va_up g9 56 (.inl (k.2.1.2.2, 1, .inr (.inl (vp_updL fo 0 ((nI (tyN uns T n (tn p0))).toInt64))))) := ⟨_, rfl⟩
    replace hI : mI k ad N g1 (mA ad N s.heap.size) s H locs := by rw [hg1]; exact hI
    have m_1 : g1 56 = .inl (k.2.1.2.2, 1, .inr (.inl (vp_updL fo 0 ((nI (tyN uns T n (tn p0))).toInt64)))) := by rw [hg1, va_up_self]
    refine lv_goto (tgt := 18) hx hb dL_type_9 (by decide) ?_
    refine lv_iconst (v := nI 0) hx hb dL_type_18 (by decide) ?_
    exact m_iret hx hb hr hlocks hI (Or.inl (⟨rfl, hok0, hok1, ⟨_, m_1, if_pos rfl⟩, CR.kept hC9 (fun i hi => by rw [hg1, va_up_ne _ _ (by omega)]), fun i h1 h2 => by rw [hg1, va_up_ne _ _ h2, hk9 i h1]⟩)) dL_type_19
set_option maxHeartbeats 8000000 in
set_option maxRecDepth 100000 in
theorem c_L_rub (k : mC) (l : Launch) (hst : l.stackTraces = false) (ad : Nat → Nat) (N : Nat) (g : Nat → va_E) (sz : Nat) (uns : Bool) (play rd n : Nat) (lat : Nat → Int32) (gar T : Nat → Nat) (came : Nat) (mis lost bel : Int32) (fig : Bool) (fi u : Nat) (z : Nat → Nat) (F : Nat → Nat → Nat) (r : Nat → Option Nat) (p0 : Int32) (fo : Nat → Int64) (hN : 57 ≤ N) (hW : CW play rd n lat gar T) (hwf : cWf (fi, u, z, F)) (hcame : came < 2000000000) (hC : CR k ad g uns play rd n lat gar T (came, mis, lost, bel, fig, fi, u, z, F) r) (h56 : g 56 = .inl (k.2.1.2.2, 1, .inr (.inl fo))) : Met l yL_rub wsL_rub { frames := 7, cells := 1, slots := 6, locals := 104 } (mPc k ad N g sz [.ref (ad 0), .int p0, .ref (ad 56)]) (va_Qi (fun r1 g1 => (r1 = nI 0 ∧ inN p0 n = true ∧ (∃ fo1 : Nat → Int64, g1 56 = .inl (k.2.1.2.2, 1, .inr (.inl fo1)) ∧ fo1 0 = (nI (T (tn p0))).toInt64) ∧ CR k ad g1 uns play rd n lat gar (va_up T (tn p0) 31) (came, mis, lost, bel, fig, fi, u, z, F) r ∧ ∀ i, 50 ≤ i → i ≠ 56 → g1 i = g i) ∨ (r1 = nI 1 ∧ inN p0 n = false ∧ g1 = g)) (mB k ad N) (mA ad N sz)) 1 6 (mA ad N sz) := by
  refine mOfH (k := k) (l := l) (y := yL_rub) (ws := wsL_rub) (ad := ad) (N := N) (g := g) (sz := sz) (mc := 1) (ms := 6) (av := [.ref (ad 0), .int p0, .ref (ad 56)]) (Qc := fun z9 => va_Qi (fun r1 g1 => (r1 = nI 0 ∧ inN p0 n = true ∧ (∃ fo1 : Nat → Int64, g1 56 = .inl (k.2.1.2.2, 1, .inr (.inl fo1)) ∧ fo1 0 = (nI (T (tn p0))).toInt64) ∧ CR k ad g1 uns play rd n lat gar (va_up T (tn p0) 31) (came, mis, lost, bel, fig, fi, u, z, F) r ∧ ∀ i, 50 ≤ i → i ≠ 56 → g1 i = g i) ∨ (r1 = nI 1 ∧ inN p0 n = false ∧ g1 = g)) (mB k ad N) (mA ad N z9)) (cc := cL_rub) (maxL := 4) (ret := (some .int)) (hh := [(0, 9, 12, 13)]) (by decide) rfl (Nat.le_of_ble_eq_true rfl) ?_
  intro p e s m below meth c hx hb hr hts hown hlocks hml htab hE hI ls hl
  have hl : lv_has ls 4 [(0, .ref (ad 0)), (1, .int p0), (2, .ref (ad 56))] := hl
  have h0 : g 0 = .inr (3, [.ref (ad 1), .ref (ad 6), .ref (ad 48), .int (nI rd), .int (bI fig), .int (bI uns), .int (nI came), .int mis, .int lost, .int bel]) := hC.1
  refine lv_aload_n hx hb dL_rub_0 rfl (lv_at hl 2 rfl) ?_
  refine lv_iconst (v := nI 0) hx hb dL_rub_1 (by decide) ?_
  refine lv_aload_n hx hb dL_rub_2 rfl (lv_at hl 0 rfl) ?_
  refine lv_iload_n hx hb dL_rub_3 rfl (lv_at hl 1 rfl) ?_
  refine m_callVx (As := [.int p0]) (rest := [.int (nI 0), .ref (ad 56)]) ⟨hx, hb, hml, hown, hts⟩ hE hI (c_X3_rub k l hst ad N g _ uns play rd n lat gar T came mis lost bel fig fi u z F r p0 (by omega) hW hwf hcame hC) (cwV 1 hts gL_rub_X3_rub rfl rfl rfl (by decide +kernel) ⟨Nat.le_of_ble_eq_true rfl, Nat.le_of_ble_eq_true rfl⟩) (i := 0) (by omega) h0 rfl rfl hl.1 rfl (Nat.le_of_ble_eq_true rfl) dL_rub_4 ⟨Nat.le_of_ble_eq_true rfl, Nat.le_of_ble_eq_true rfl⟩ (fun E ce q9 H locs hxp hI hce hcv hcl => ?_) (fun r9 g9 H locs hp hI => ?_)
  · obtain ⟨rfl, hbad0⟩ := hxp
    refine vx_catch hown [] _ [] htab (fun z9 hz9 => absurd hz9 List.not_mem_nil) rfl (by decide) (hts (.classLink RL 13 "java/lang/IndexOutOfBoundsException") (by decide +kernel)) (va_Nw.use rfl (hE.1.2.2.2.2.2.2.1 "java/lang/IndexOutOfBoundsException" (by decide))) hce hcv hcl ?_
    show W p l e _ s m _ below meth c _ _ _ _ _ (F0 m 12 ls [.ref q9])
    refine lv_astore_n (lv' := [(3, .ref q9), (0, .ref (ad 0)), (1, .int p0), (2, .ref (ad 56))]) hx hb dL_rub_12 rfl hl (by decide) rfl (fun ls hl => ?_)
    refine lv_iconst (v := nI 1) hx hb dL_rub_13 (by decide) ?_
    exact m_iret hx hb hr hlocks hI (Or.inr (⟨rfl, hbad0, rfl⟩)) dL_rub_14
  · obtain ⟨hok0, hrr, hC9, hk9⟩ := hp
    have h569 : g9 56 = .inl (k.2.1.2.2, 1, .inr (.inl fo)) := (hk9 56 (by omega)).trans h56
    subst hrr
    refine lv_i2l (v := (nI (T (tn p0))).toInt64) hx hb dL_rub_7 rfl ?_
    refine m_last hx hb hE hI 56 (by omega) (j := 0) h569 (by omega) (by omega) dL_rub_8 (fun H locs hI => ?_)
    obtain ⟨g1, hg1⟩ : ∃ zz, zz = va_up g9 56 (.inl (k.2.1.2.2, 1, .inr (.inl (vp_updL fo 0 ((nI (T (tn p0))).toInt64))))) := ⟨_, rfl⟩
    replace hI : mI k ad N g1 (mA ad N s.heap.size) s H locs := by rw [hg1]; exact hI
    have m_1 : g1 56 = .inl (k.2.1.2.2, 1, .inr (.inl (vp_updL fo 0 ((nI (T (tn p0))).toInt64)))) := by rw [hg1, va_up_self]
    refine lv_goto (tgt := 15) hx hb dL_rub_9 (by decide) ?_
    refine lv_iconst (v := nI 0) hx hb dL_rub_15 (by decide) ?_
    exact m_iret hx hb hr hlocks hI (Or.inl (⟨rfl, hok0, ⟨_, m_1, if_pos rfl⟩, CR.kept hC9 (fun i hi => by rw [hg1, va_up_ne _ _ (by omega)]), fun i h1 h2 => by rw [hg1, va_up_ne _ _ h2, hk9 i h1]⟩)) dL_rub_16
set_option maxHeartbeats 8000000 in
set_option maxRecDepth 100000 in
theorem c_L_run (k : mC) (l : Launch) (hst : l.stackTraces = false) (ad : Nat → Nat) (N : Nat) (g : Nat → va_E) (sz : Nat) (uns : Bool) (play rd n : Nat) (lat : Nat → Int32) (gar T : Nat → Nat) (came : Nat) (mis lost bel : Int32) (fig : Bool) (fi u : Nat) (z : Nat → Nat) (F : Nat → Nat → Nat) (r : Nat → Option Nat) (p0 : Int32) (fo : Nat → Int64) (hN : 57 ≤ N) (hW : CW play rd n lat gar T) (hwf : cWf (fi, u, z, F)) (hcame : came < 2000000000) (hC : CR k ad g uns play rd n lat gar T (came, mis, lost, bel, fig, fi, u, z, F) r) (h56 : g 56 = .inl (k.2.1.2.2, 1, .inr (.inl fo))) : Met l yL_run wsL_run { frames := 7, cells := 1, slots := 6, locals := 130 } (mPc k ad N g sz [.ref (ad 0), .int p0, .ref (ad 56)]) (va_Qi (fun r1 g1 => (r1 = nI 0 ∧ in120 p0 = true ∧ (∃ fo1 : Nat → Int64, g1 56 = .inl (k.2.1.2.2, 1, .inr (.inl fo1)) ∧ fo1 0 = (nI (min (tn p0) (n - rd))).toInt64) ∧ CR k ad g1 uns play (rd + min (tn p0) (n - rd)) n lat gar T (yRun cNl cFull cAdd uns play lat gar T rd (came, mis, lost, bel, fig, fi, u, z, F) (min (tn p0) (n - rd))) r ∧ ∀ i, 50 ≤ i → i ≠ 56 → g1 i = g i) ∨ (r1 = nI 1 ∧ in120 p0 = false ∧ g1 = g)) (mB k ad N) (mA ad N sz)) 1 6 (mA ad N sz) := by
  refine mOfH (k := k) (l := l) (y := yL_run) (ws := wsL_run) (ad := ad) (N := N) (g := g) (sz := sz) (mc := 1) (ms := 6) (av := [.ref (ad 0), .int p0, .ref (ad 56)]) (Qc := fun z9 => va_Qi (fun r1 g1 => (r1 = nI 0 ∧ in120 p0 = true ∧ (∃ fo1 : Nat → Int64, g1 56 = .inl (k.2.1.2.2, 1, .inr (.inl fo1)) ∧ fo1 0 = (nI (min (tn p0) (n - rd))).toInt64) ∧ CR k ad g1 uns play (rd + min (tn p0) (n - rd)) n lat gar T (yRun cNl cFull cAdd uns play lat gar T rd (came, mis, lost, bel, fig, fi, u, z, F) (min (tn p0) (n - rd))) r ∧ ∀ i, 50 ≤ i → i ≠ 56 → g1 i = g i) ∨ (r1 = nI 1 ∧ in120 p0 = false ∧ g1 = g)) (mB k ad N) (mA ad N z9)) (cc := cL_run) (maxL := 4) (ret := (some .int)) (hh := [(0, 9, 12, 30)]) (by decide) rfl (Nat.le_of_ble_eq_true rfl) ?_
  intro p e s m below meth c hx hb hr hts hown hlocks hml htab hE hI ls hl
  have hl : lv_has ls 4 [(0, .ref (ad 0)), (1, .int p0), (2, .ref (ad 56))] := hl
  have h0 : g 0 = .inr (3, [.ref (ad 1), .ref (ad 6), .ref (ad 48), .int (nI rd), .int (bI fig), .int (bI uns), .int (nI came), .int mis, .int lost, .int bel]) := hC.1
  refine lv_aload_n hx hb dL_run_0 rfl (lv_at hl 2 rfl) ?_
  refine lv_iconst (v := nI 0) hx hb dL_run_1 (by decide) ?_
  refine lv_aload_n hx hb dL_run_2 rfl (lv_at hl 0 rfl) ?_
  refine lv_iload_n hx hb dL_run_3 rfl (lv_at hl 1 rfl) ?_
  refine m_callVx (As := [.int p0]) (rest := [.int (nI 0), .ref (ad 56)]) ⟨hx, hb, hml, hown, hts⟩ hE hI (c_X3_run k l hst ad N g _ uns play rd n lat gar T came mis lost bel fig fi u z F r p0 (by omega) hW hwf hcame hC) (cwV 1 hts gL_run_X3_run rfl rfl rfl (by decide +kernel) ⟨Nat.le_of_ble_eq_true rfl, Nat.le_of_ble_eq_true rfl⟩) (i := 0) (by omega) h0 rfl rfl hl.1 rfl (Nat.le_of_ble_eq_true rfl) dL_run_4 ⟨Nat.le_of_ble_eq_true rfl, Nat.le_of_ble_eq_true rfl⟩ (fun E ce q9 H locs hxp hI hce hcv hcl => ?_) (fun r9 g9 H locs hp hI => ?_)
  · obtain ⟨rfl, hbad0⟩ := hxp
    refine vx_catch hown [] _ [] htab (fun z9 hz9 => absurd hz9 List.not_mem_nil) rfl (by decide) (hts (.classLink RL 30 "java/lang/IllegalArgumentException") (by decide +kernel)) (va_Nw.use rfl (hE.1.2.2.2.2.2.2.1 "java/lang/IllegalArgumentException" (by decide))) hce hcv hcl ?_
    show W p l e _ s m _ below meth c _ _ _ _ _ (F0 m 12 ls [.ref q9])
    refine lv_astore_n (lv' := [(3, .ref q9), (0, .ref (ad 0)), (1, .int p0), (2, .ref (ad 56))]) hx hb dL_run_12 rfl hl (by decide) rfl (fun ls hl => ?_)
    refine lv_iconst (v := nI 1) hx hb dL_run_13 (by decide) ?_
    exact m_iret hx hb hr hlocks hI (Or.inr (⟨rfl, hbad0, rfl⟩)) dL_run_14
  · obtain ⟨hok0, hrr, hC9, hk9⟩ := hp
    have h569 : g9 56 = .inl (k.2.1.2.2, 1, .inr (.inl fo)) := (hk9 56 (by omega)).trans h56
    subst hrr
    refine lv_i2l (v := (nI (min (tn p0) (n - rd))).toInt64) hx hb dL_run_7 rfl ?_
    refine m_last hx hb hE hI 56 (by omega) (j := 0) h569 (by omega) (by omega) dL_run_8 (fun H locs hI => ?_)
    obtain ⟨g1, hg1⟩ : ∃ zz, zz = va_up g9 56 (.inl (k.2.1.2.2, 1, .inr (.inl (vp_updL fo 0 ((nI (min (tn p0) (n - rd))).toInt64))))) := ⟨_, rfl⟩
    replace hI : mI k ad N g1 (mA ad N s.heap.size) s H locs := by rw [hg1]; exact hI
    have m_1 : g1 56 = .inl (k.2.1.2.2, 1, .inr (.inl (vp_updL fo 0 ((nI (min (tn p0) (n - rd))).toInt64)))) := by rw [hg1, va_up_self]
    refine lv_goto (tgt := 15) hx hb dL_run_9 (by decide) ?_
    refine lv_iconst (v := nI 0) hx hb dL_run_15 (by decide) ?_
    exact m_iret hx hb hr hlocks hI (Or.inl (⟨rfl, hok0, ⟨_, m_1, if_pos rfl⟩, CR.kept hC9 (fun i hi => by rw [hg1, va_up_ne _ _ (by omega)]), fun i h1 h2 => by rw [hg1, va_up_ne _ _ h2, hk9 i h1]⟩)) dL_run_16
set_option maxHeartbeats 8000000 in
set_option maxRecDepth 100000 in
theorem c_L_wind (k : mC) (l : Launch) (hst : l.stackTraces = false) (ad : Nat → Nat) (N : Nat) (g : Nat → va_E) (sz : Nat) (uns : Bool) (play rd n : Nat) (lat : Nat → Int32) (gar T : Nat → Nat) (came : Nat) (mis lost bel : Int32) (fig : Bool) (fi u : Nat) (z : Nat → Nat) (F : Nat → Nat → Nat) (r : Nat → Option Nat) (p0 : Int32) (fo : Nat → Int64) (hN : 57 ≤ N) (hW : CW play rd n lat gar T) (hwf : cWf (fi, u, z, F)) (hcame : came < 2000000000) (hC : CR k ad g uns play rd n lat gar T (came, mis, lost, bel, fig, fi, u, z, F) r) (h56 : g 56 = .inl (k.2.1.2.2, 1, .inr (.inl fo))) : Met l yL_wind wsL_wind { frames := 7, cells := 1, slots := 6, locals := 104 } (mPc k ad N g sz [.ref (ad 0), .int p0, .ref (ad 56)]) (va_Qi (fun r1 g1 => (r1 = nI 0 ∧ inN p0 (n + 1) = true ∧ (∃ fo1 : Nat → Int64, g1 56 = .inl (k.2.1.2.2, 1, .inr (.inl fo1)) ∧ fo1 0 = (nI rd).toInt64) ∧ CR k ad g1 uns play (tn p0) n lat gar T (came, mis, lost, bel, fig, fi, u, z, F) r ∧ ∀ i, 50 ≤ i → i ≠ 56 → g1 i = g i) ∨ (r1 = nI 1 ∧ inN p0 (n + 1) = false ∧ g1 = g)) (mB k ad N) (mA ad N sz)) 1 6 (mA ad N sz) := by
  refine mOfH (k := k) (l := l) (y := yL_wind) (ws := wsL_wind) (ad := ad) (N := N) (g := g) (sz := sz) (mc := 1) (ms := 6) (av := [.ref (ad 0), .int p0, .ref (ad 56)]) (Qc := fun z9 => va_Qi (fun r1 g1 => (r1 = nI 0 ∧ inN p0 (n + 1) = true ∧ (∃ fo1 : Nat → Int64, g1 56 = .inl (k.2.1.2.2, 1, .inr (.inl fo1)) ∧ fo1 0 = (nI rd).toInt64) ∧ CR k ad g1 uns play (tn p0) n lat gar T (came, mis, lost, bel, fig, fi, u, z, F) r ∧ ∀ i, 50 ≤ i → i ≠ 56 → g1 i = g i) ∨ (r1 = nI 1 ∧ inN p0 (n + 1) = false ∧ g1 = g)) (mB k ad N) (mA ad N z9)) (cc := cL_wind) (maxL := 4) (ret := (some .int)) (hh := [(0, 9, 12, 13)]) (by decide) rfl (Nat.le_of_ble_eq_true rfl) ?_
  intro p e s m below meth c hx hb hr hts hown hlocks hml htab hE hI ls hl
  have hl : lv_has ls 4 [(0, .ref (ad 0)), (1, .int p0), (2, .ref (ad 56))] := hl
  have h0 : g 0 = .inr (3, [.ref (ad 1), .ref (ad 6), .ref (ad 48), .int (nI rd), .int (bI fig), .int (bI uns), .int (nI came), .int mis, .int lost, .int bel]) := hC.1
  refine lv_aload_n hx hb dL_wind_0 rfl (lv_at hl 2 rfl) ?_
  refine lv_iconst (v := nI 0) hx hb dL_wind_1 (by decide) ?_
  refine lv_aload_n hx hb dL_wind_2 rfl (lv_at hl 0 rfl) ?_
  refine lv_iload_n hx hb dL_wind_3 rfl (lv_at hl 1 rfl) ?_
  refine m_callVx (As := [.int p0]) (rest := [.int (nI 0), .ref (ad 56)]) ⟨hx, hb, hml, hown, hts⟩ hE hI (c_X3_wind k l hst ad N g _ uns play rd n lat gar T came mis lost bel fig fi u z F r p0 (by omega) hW hwf hcame hC) (cwV 1 hts gL_wind_X3_wind rfl rfl rfl (by decide +kernel) ⟨Nat.le_of_ble_eq_true rfl, Nat.le_of_ble_eq_true rfl⟩) (i := 0) (by omega) h0 rfl rfl hl.1 rfl (Nat.le_of_ble_eq_true rfl) dL_wind_4 ⟨Nat.le_of_ble_eq_true rfl, Nat.le_of_ble_eq_true rfl⟩ (fun E ce q9 H locs hxp hI hce hcv hcl => ?_) (fun r9 g9 H locs hp hI => ?_)
  · obtain ⟨rfl, hbad0⟩ := hxp
    refine vx_catch hown [] _ [] htab (fun z9 hz9 => absurd hz9 List.not_mem_nil) rfl (by decide) (hts (.classLink RL 13 "java/lang/IndexOutOfBoundsException") (by decide +kernel)) (va_Nw.use rfl (hE.1.2.2.2.2.2.2.1 "java/lang/IndexOutOfBoundsException" (by decide))) hce hcv hcl ?_
    show W p l e _ s m _ below meth c _ _ _ _ _ (F0 m 12 ls [.ref q9])
    refine lv_astore_n (lv' := [(3, .ref q9), (0, .ref (ad 0)), (1, .int p0), (2, .ref (ad 56))]) hx hb dL_wind_12 rfl hl (by decide) rfl (fun ls hl => ?_)
    refine lv_iconst (v := nI 1) hx hb dL_wind_13 (by decide) ?_
    exact m_iret hx hb hr hlocks hI (Or.inr (⟨rfl, hbad0, rfl⟩)) dL_wind_14
  · obtain ⟨hok0, hrr, hC9, hk9⟩ := hp
    have h569 : g9 56 = .inl (k.2.1.2.2, 1, .inr (.inl fo)) := (hk9 56 (by omega)).trans h56
    subst hrr
    refine lv_i2l (v := (nI rd).toInt64) hx hb dL_wind_7 rfl ?_
    refine m_last hx hb hE hI 56 (by omega) (j := 0) h569 (by omega) (by omega) dL_wind_8 (fun H locs hI => ?_)
    obtain ⟨g1, hg1⟩ : ∃ zz, zz = va_up g9 56 (.inl (k.2.1.2.2, 1, .inr (.inl (vp_updL fo 0 ((nI rd).toInt64))))) := ⟨_, rfl⟩
    replace hI : mI k ad N g1 (mA ad N s.heap.size) s H locs := by rw [hg1]; exact hI
    have m_1 : g1 56 = .inl (k.2.1.2.2, 1, .inr (.inl (vp_updL fo 0 ((nI rd).toInt64)))) := by rw [hg1, va_up_self]
    refine lv_goto (tgt := 15) hx hb dL_wind_9 (by decide) ?_
    refine lv_iconst (v := nI 0) hx hb dL_wind_15 (by decide) ?_
    exact m_iret hx hb hr hlocks hI (Or.inl (⟨rfl, hok0, ⟨_, m_1, if_pos rfl⟩, CR.kept hC9 (fun i hi => by rw [hg1, va_up_ne _ _ (by omega)]), fun i h1 h2 => by rw [hg1, va_up_ne _ _ h2, hk9 i h1]⟩)) dL_wind_16
set_option maxHeartbeats 8000000 in
set_option maxRecDepth 100000 in
theorem c_L_tape (k : mC) (l : Launch) (hst : l.stackTraces = false) (ad : Nat → Nat) (N : Nat) (g : Nat → va_E) (sz : Nat) (uns : Bool) (play rd n : Nat) (lat : Nat → Int32) (gar T : Nat → Nat) (came : Nat) (mis lost bel : Int32) (fig : Bool) (fi u : Nat) (z : Nat → Nat) (F : Nat → Nat → Nat) (r : Nat → Option Nat) (p0 : Int32) (fo : Nat → Int64) (hN : 57 ≤ N) (hW : CW play rd n lat gar T) (hwf : cWf (fi, u, z, F)) (hcame : came < 2000000000) (hC : CR k ad g uns play rd n lat gar T (came, mis, lost, bel, fig, fi, u, z, F) r) (h56 : g 56 = .inl (k.2.1.2.2, 1, .inr (.inl fo))) : Met l yL_tape wsL_tape { frames := 7, cells := 1, slots := 6, locals := 103 } (mPc k ad N g sz [.ref (ad 0), .int p0, .ref (ad 56)]) (va_Qi (fun r1 g1 => (r1 = nI 0 ∧ inN p0 n = true ∧ (∃ fo1 : Nat → Int64, g1 56 = .inl (k.2.1.2.2, 1, .inr (.inl fo1)) ∧ fo1 0 = (nI (T (tn p0))).toInt64) ∧ CR k ad g1 uns play rd n lat gar T (came, mis, lost, bel, fig, fi, u, z, F) r ∧ ∀ i, 50 ≤ i → i ≠ 56 → g1 i = g i) ∨ (r1 = nI 1 ∧ inN p0 n = false ∧ g1 = g)) (mB k ad N) (mA ad N sz)) 1 6 (mA ad N sz) := by
  refine mOfH (k := k) (l := l) (y := yL_tape) (ws := wsL_tape) (ad := ad) (N := N) (g := g) (sz := sz) (mc := 1) (ms := 6) (av := [.ref (ad 0), .int p0, .ref (ad 56)]) (Qc := fun z9 => va_Qi (fun r1 g1 => (r1 = nI 0 ∧ inN p0 n = true ∧ (∃ fo1 : Nat → Int64, g1 56 = .inl (k.2.1.2.2, 1, .inr (.inl fo1)) ∧ fo1 0 = (nI (T (tn p0))).toInt64) ∧ CR k ad g1 uns play rd n lat gar T (came, mis, lost, bel, fig, fi, u, z, F) r ∧ ∀ i, 50 ≤ i → i ≠ 56 → g1 i = g i) ∨ (r1 = nI 1 ∧ inN p0 n = false ∧ g1 = g)) (mB k ad N) (mA ad N z9)) (cc := cL_tape) (maxL := 4) (ret := (some .int)) (hh := [(0, 9, 12, 13)]) (by decide) rfl (Nat.le_of_ble_eq_true rfl) ?_
  intro p e s m below meth c hx hb hr hts hown hlocks hml htab hE hI ls hl
  have hl : lv_has ls 4 [(0, .ref (ad 0)), (1, .int p0), (2, .ref (ad 56))] := hl
  have h0 : g 0 = .inr (3, [.ref (ad 1), .ref (ad 6), .ref (ad 48), .int (nI rd), .int (bI fig), .int (bI uns), .int (nI came), .int mis, .int lost, .int bel]) := hC.1
  refine lv_aload_n hx hb dL_tape_0 rfl (lv_at hl 2 rfl) ?_
  refine lv_iconst (v := nI 0) hx hb dL_tape_1 (by decide) ?_
  refine lv_aload_n hx hb dL_tape_2 rfl (lv_at hl 0 rfl) ?_
  refine lv_iload_n hx hb dL_tape_3 rfl (lv_at hl 1 rfl) ?_
  refine m_callVx (As := [.int p0]) (rest := [.int (nI 0), .ref (ad 56)]) ⟨hx, hb, hml, hown, hts⟩ hE hI (c_X3_tape k l hst ad N g _ uns play rd n lat gar T came mis lost bel fig fi u z F r p0 (by omega) hW hwf hcame hC) (cwV 1 hts gL_tape_X3_tape rfl rfl rfl (by decide +kernel) ⟨Nat.le_of_ble_eq_true rfl, Nat.le_of_ble_eq_true rfl⟩) (i := 0) (by omega) h0 rfl rfl hl.1 rfl (Nat.le_of_ble_eq_true rfl) dL_tape_4 ⟨Nat.le_of_ble_eq_true rfl, Nat.le_of_ble_eq_true rfl⟩ (fun E ce q9 H locs hxp hI hce hcv hcl => ?_) (fun r9 g9 H locs hp hI => ?_)
  · obtain ⟨rfl, hbad0⟩ := hxp
    refine vx_catch hown [] _ [] htab (fun z9 hz9 => absurd hz9 List.not_mem_nil) rfl (by decide) (hts (.classLink RL 13 "java/lang/IndexOutOfBoundsException") (by decide +kernel)) (va_Nw.use rfl (hE.1.2.2.2.2.2.2.1 "java/lang/IndexOutOfBoundsException" (by decide))) hce hcv hcl ?_
    show W p l e _ s m _ below meth c _ _ _ _ _ (F0 m 12 ls [.ref q9])
    refine lv_astore_n (lv' := [(3, .ref q9), (0, .ref (ad 0)), (1, .int p0), (2, .ref (ad 56))]) hx hb dL_tape_12 rfl hl (by decide) rfl (fun ls hl => ?_)
    refine lv_iconst (v := nI 1) hx hb dL_tape_13 (by decide) ?_
    exact m_iret hx hb hr hlocks hI (Or.inr (⟨rfl, hbad0, rfl⟩)) dL_tape_14
  · obtain ⟨hok0, hrr, hgg⟩ := hp
    rw [hgg] at hI
    subst hrr
    refine lv_i2l (v := (nI (T (tn p0))).toInt64) hx hb dL_tape_7 rfl ?_
    refine m_last hx hb hE hI 56 (by omega) (j := 0) h56 (by omega) (by omega) dL_tape_8 (fun H locs hI => ?_)
    obtain ⟨g1, hg1⟩ : ∃ zz, zz = va_up g 56 (.inl (k.2.1.2.2, 1, .inr (.inl (vp_updL fo 0 ((nI (T (tn p0))).toInt64))))) := ⟨_, rfl⟩
    replace hI : mI k ad N g1 (mA ad N s.heap.size) s H locs := by rw [hg1]; exact hI
    have m_1 : g1 56 = .inl (k.2.1.2.2, 1, .inr (.inl (vp_updL fo 0 ((nI (T (tn p0))).toInt64)))) := by rw [hg1, va_up_self]
    refine lv_goto (tgt := 15) hx hb dL_tape_9 (by decide) ?_
    refine lv_iconst (v := nI 0) hx hb dL_tape_15 (by decide) ?_
    exact m_iret hx hb hr hlocks hI (Or.inl (⟨rfl, hok0, ⟨_, m_1, if_pos rfl⟩, CR.kept hC (fun i hi => by rw [hg1, va_up_ne _ _ (by omega)]), fun i h1 h2 => by rw [hg1, va_up_ne _ _ h2]⟩)) dL_tape_16
set_option maxHeartbeats 8000000 in
set_option maxRecDepth 100000 in
theorem c_L_page (k : mC) (l : Launch) (hst : l.stackTraces = false) (ad : Nat → Nat) (N : Nat) (g : Nat → va_E) (sz : Nat) (uns : Bool) (play rd n : Nat) (lat : Nat → Int32) (gar T : Nat → Nat) (came : Nat) (mis lost bel : Int32) (fig : Bool) (fi u : Nat) (z : Nat → Nat) (F : Nat → Nat → Nat) (r : Nat → Option Nat) (p0 p1 : Int32) (fo : Nat → Int64) (hN : 57 ≤ N) (hW : CW play rd n lat gar T) (hwf : cWf (fi, u, z, F)) (hcame : came < 2000000000) (hC : CR k ad g uns play rd n lat gar T (came, mis, lost, bel, fig, fi, u, z, F) r) (h56 : g 56 = .inl (k.2.1.2.2, 1, .inr (.inl fo))) : Met l yL_page wsL_page { frames := 7, cells := 1, slots := 6, locals := 105 } (mPc k ad N g sz [.ref (ad 0), .int p0, .int p1, .ref (ad 56)]) (va_Qi (fun r1 g1 => (r1 = nI 0 ∧ (inN p0 u && inN p1 (z (slt fi (tn p0)))) = true ∧ (∃ fo1 : Nat → Int64, g1 56 = .inl (k.2.1.2.2, 1, .inr (.inl fo1)) ∧ fo1 0 = (nI (F (slt fi (tn p0)) (tn p1))).toInt64) ∧ CR k ad g1 uns play rd n lat gar T (came, mis, lost, bel, fig, fi, u, z, F) r ∧ ∀ i, 50 ≤ i → i ≠ 56 → g1 i = g i) ∨ (r1 = nI 1 ∧ (inN p0 u && inN p1 (z (slt fi (tn p0)))) = false ∧ g1 = g)) (mB k ad N) (mA ad N sz)) 1 6 (mA ad N sz) := by
  refine mOfH (k := k) (l := l) (y := yL_page) (ws := wsL_page) (ad := ad) (N := N) (g := g) (sz := sz) (mc := 1) (ms := 6) (av := [.ref (ad 0), .int p0, .int p1, .ref (ad 56)]) (Qc := fun z9 => va_Qi (fun r1 g1 => (r1 = nI 0 ∧ (inN p0 u && inN p1 (z (slt fi (tn p0)))) = true ∧ (∃ fo1 : Nat → Int64, g1 56 = .inl (k.2.1.2.2, 1, .inr (.inl fo1)) ∧ fo1 0 = (nI (F (slt fi (tn p0)) (tn p1))).toInt64) ∧ CR k ad g1 uns play rd n lat gar T (came, mis, lost, bel, fig, fi, u, z, F) r ∧ ∀ i, 50 ≤ i → i ≠ 56 → g1 i = g i) ∨ (r1 = nI 1 ∧ (inN p0 u && inN p1 (z (slt fi (tn p0)))) = false ∧ g1 = g)) (mB k ad N) (mA ad N z9)) (cc := cL_page) (maxL := 5) (ret := (some .int)) (hh := [(0, 10, 13, 13)]) (by decide) rfl (Nat.le_of_ble_eq_true rfl) ?_
  intro p e s m below meth c hx hb hr hts hown hlocks hml htab hE hI ls hl
  have hl : lv_has ls 5 [(0, .ref (ad 0)), (1, .int p0), (2, .int p1), (3, .ref (ad 56))] := hl
  have h0 : g 0 = .inr (3, [.ref (ad 1), .ref (ad 6), .ref (ad 48), .int (nI rd), .int (bI fig), .int (bI uns), .int (nI came), .int mis, .int lost, .int bel]) := hC.1
  refine lv_aload_n hx hb dL_page_0 rfl (lv_at hl 3 rfl) ?_
  refine lv_iconst (v := nI 0) hx hb dL_page_1 (by decide) ?_
  refine lv_aload_n hx hb dL_page_2 rfl (lv_at hl 0 rfl) ?_
  refine lv_iload_n hx hb dL_page_3 rfl (lv_at hl 1 rfl) ?_
  refine lv_iload_n hx hb dL_page_4 rfl (lv_at hl 2 rfl) ?_
  refine m_callVx (As := [.int p0, .int p1]) (rest := [.int (nI 0), .ref (ad 56)]) ⟨hx, hb, hml, hown, hts⟩ hE hI (c_X3_page k l hst ad N g _ uns play rd n lat gar T came mis lost bel fig fi u z F r p0 p1 (by omega) hW hwf hcame hC) (cwV 2 hts gL_page_X3_page rfl rfl rfl (by decide +kernel) ⟨Nat.le_of_ble_eq_true rfl, Nat.le_of_ble_eq_true rfl⟩) (i := 0) (by omega) h0 rfl rfl hl.1 rfl (Nat.le_of_ble_eq_true rfl) dL_page_5 ⟨Nat.le_of_ble_eq_true rfl, Nat.le_of_ble_eq_true rfl⟩ (fun E ce q9 H locs hxp hI hce hcv hcl => ?_) (fun r9 g9 H locs hp hI => ?_)
  · obtain ⟨rfl, hbad0⟩ := hxp
    refine vx_catch hown [] _ [] htab (fun z9 hz9 => absurd hz9 List.not_mem_nil) rfl (by decide) (hts (.classLink RL 13 "java/lang/IndexOutOfBoundsException") (by decide +kernel)) (va_Nw.use rfl (hE.1.2.2.2.2.2.2.1 "java/lang/IndexOutOfBoundsException" (by decide))) hce hcv hcl ?_
    show W p l e _ s m _ below meth c _ _ _ _ _ (F0 m 13 ls [.ref q9])
    refine lv_astore (lv' := [(4, .ref q9), (0, .ref (ad 0)), (1, .int p0), (2, .int p1), (3, .ref (ad 56))]) hx hb dL_page_13 hl (by decide) rfl (fun ls hl => ?_)
    refine lv_iconst (v := nI 1) hx hb dL_page_15 (by decide) ?_
    exact m_iret hx hb hr hlocks hI (Or.inr (⟨rfl, hbad0, rfl⟩)) dL_page_16
  · obtain ⟨hok0, hrr, hgg⟩ := hp
    rw [hgg] at hI
    subst hrr
    refine lv_i2l (v := (nI (F (slt fi (tn p0)) (tn p1))).toInt64) hx hb dL_page_8 rfl ?_
    refine m_last hx hb hE hI 56 (by omega) (j := 0) h56 (by omega) (by omega) dL_page_9 (fun H locs hI => ?_)
    obtain ⟨g1, hg1⟩ : ∃ zz, zz = va_up g 56 (.inl (k.2.1.2.2, 1, .inr (.inl (vp_updL fo 0 ((nI (F (slt fi (tn p0)) (tn p1))).toInt64))))) := ⟨_, rfl⟩
    replace hI : mI k ad N g1 (mA ad N s.heap.size) s H locs := by rw [hg1]; exact hI
    have m_1 : g1 56 = .inl (k.2.1.2.2, 1, .inr (.inl (vp_updL fo 0 ((nI (F (slt fi (tn p0)) (tn p1))).toInt64)))) := by rw [hg1, va_up_self]
    refine lv_goto (tgt := 17) hx hb dL_page_10 (by decide) ?_
    refine lv_iconst (v := nI 0) hx hb dL_page_17 (by decide) ?_
    exact m_iret hx hb hr hlocks hI (Or.inl (⟨rfl, hok0, ⟨_, m_1, if_pos rfl⟩, CR.kept hC (fun i hi => by rw [hg1, va_up_ne _ _ (by omega)]), fun i h1 h2 => by rw [hg1, va_up_ne _ _ h2]⟩)) dL_page_18
set_option maxHeartbeats 8000000 in
set_option maxRecDepth 100000 in
theorem c_L_length (k : mC) (l : Launch) (hst : l.stackTraces = false) (ad : Nat → Nat) (N : Nat) (g : Nat → va_E) (sz : Nat) (uns : Bool) (play rd n : Nat) (lat : Nat → Int32) (gar T : Nat → Nat) (came : Nat) (mis lost bel : Int32) (fig : Bool) (fi u : Nat) (z : Nat → Nat) (F : Nat → Nat → Nat) (r : Nat → Option Nat) (p0 : Int32) (fo : Nat → Int64) (hN : 57 ≤ N) (hW : CW play rd n lat gar T) (hwf : cWf (fi, u, z, F)) (hcame : came < 2000000000) (hC : CR k ad g uns play rd n lat gar T (came, mis, lost, bel, fig, fi, u, z, F) r) (h56 : g 56 = .inl (k.2.1.2.2, 1, .inr (.inl fo))) : Met l yL_length wsL_length { frames := 7, cells := 1, slots := 6, locals := 104 } (mPc k ad N g sz [.ref (ad 0), .int p0, .ref (ad 56)]) (va_Qi (fun r1 g1 => (r1 = nI 0 ∧ inN p0 u = true ∧ (∃ fo1 : Nat → Int64, g1 56 = .inl (k.2.1.2.2, 1, .inr (.inl fo1)) ∧ fo1 0 = (nI (z (slt fi (tn p0)))).toInt64) ∧ CR k ad g1 uns play rd n lat gar T (came, mis, lost, bel, fig, fi, u, z, F) r ∧ ∀ i, 50 ≤ i → i ≠ 56 → g1 i = g i) ∨ (r1 = nI 1 ∧ inN p0 u = false ∧ g1 = g)) (mB k ad N) (mA ad N sz)) 1 6 (mA ad N sz) := by
  refine mOfH (k := k) (l := l) (y := yL_length) (ws := wsL_length) (ad := ad) (N := N) (g := g) (sz := sz) (mc := 1) (ms := 6) (av := [.ref (ad 0), .int p0, .ref (ad 56)]) (Qc := fun z9 => va_Qi (fun r1 g1 => (r1 = nI 0 ∧ inN p0 u = true ∧ (∃ fo1 : Nat → Int64, g1 56 = .inl (k.2.1.2.2, 1, .inr (.inl fo1)) ∧ fo1 0 = (nI (z (slt fi (tn p0)))).toInt64) ∧ CR k ad g1 uns play rd n lat gar T (came, mis, lost, bel, fig, fi, u, z, F) r ∧ ∀ i, 50 ≤ i → i ≠ 56 → g1 i = g i) ∨ (r1 = nI 1 ∧ inN p0 u = false ∧ g1 = g)) (mB k ad N) (mA ad N z9)) (cc := cL_length) (maxL := 4) (ret := (some .int)) (hh := [(0, 9, 12, 13)]) (by decide) rfl (Nat.le_of_ble_eq_true rfl) ?_
  intro p e s m below meth c hx hb hr hts hown hlocks hml htab hE hI ls hl
  have hl : lv_has ls 4 [(0, .ref (ad 0)), (1, .int p0), (2, .ref (ad 56))] := hl
  have h0 : g 0 = .inr (3, [.ref (ad 1), .ref (ad 6), .ref (ad 48), .int (nI rd), .int (bI fig), .int (bI uns), .int (nI came), .int mis, .int lost, .int bel]) := hC.1
  refine lv_aload_n hx hb dL_length_0 rfl (lv_at hl 2 rfl) ?_
  refine lv_iconst (v := nI 0) hx hb dL_length_1 (by decide) ?_
  refine lv_aload_n hx hb dL_length_2 rfl (lv_at hl 0 rfl) ?_
  refine lv_iload_n hx hb dL_length_3 rfl (lv_at hl 1 rfl) ?_
  refine m_callVx (As := [.int p0]) (rest := [.int (nI 0), .ref (ad 56)]) ⟨hx, hb, hml, hown, hts⟩ hE hI (c_X3_length k l hst ad N g _ uns play rd n lat gar T came mis lost bel fig fi u z F r p0 (by omega) hW hwf hcame hC) (cwV 1 hts gL_length_X3_length rfl rfl rfl (by decide +kernel) ⟨Nat.le_of_ble_eq_true rfl, Nat.le_of_ble_eq_true rfl⟩) (i := 0) (by omega) h0 rfl rfl hl.1 rfl (Nat.le_of_ble_eq_true rfl) dL_length_4 ⟨Nat.le_of_ble_eq_true rfl, Nat.le_of_ble_eq_true rfl⟩ (fun E ce q9 H locs hxp hI hce hcv hcl => ?_) (fun r9 g9 H locs hp hI => ?_)
  · obtain ⟨rfl, hbad0⟩ := hxp
    refine vx_catch hown [] _ [] htab (fun z9 hz9 => absurd hz9 List.not_mem_nil) rfl (by decide) (hts (.classLink RL 13 "java/lang/IndexOutOfBoundsException") (by decide +kernel)) (va_Nw.use rfl (hE.1.2.2.2.2.2.2.1 "java/lang/IndexOutOfBoundsException" (by decide))) hce hcv hcl ?_
    show W p l e _ s m _ below meth c _ _ _ _ _ (F0 m 12 ls [.ref q9])
    refine lv_astore_n (lv' := [(3, .ref q9), (0, .ref (ad 0)), (1, .int p0), (2, .ref (ad 56))]) hx hb dL_length_12 rfl hl (by decide) rfl (fun ls hl => ?_)
    refine lv_iconst (v := nI 1) hx hb dL_length_13 (by decide) ?_
    exact m_iret hx hb hr hlocks hI (Or.inr (⟨rfl, hbad0, rfl⟩)) dL_length_14
  · obtain ⟨hok0, hrr, hgg⟩ := hp
    rw [hgg] at hI
    subst hrr
    refine lv_i2l (v := (nI (z (slt fi (tn p0)))).toInt64) hx hb dL_length_7 rfl ?_
    refine m_last hx hb hE hI 56 (by omega) (j := 0) h56 (by omega) (by omega) dL_length_8 (fun H locs hI => ?_)
    obtain ⟨g1, hg1⟩ : ∃ zz, zz = va_up g 56 (.inl (k.2.1.2.2, 1, .inr (.inl (vp_updL fo 0 ((nI (z (slt fi (tn p0)))).toInt64))))) := ⟨_, rfl⟩
    replace hI : mI k ad N g1 (mA ad N s.heap.size) s H locs := by rw [hg1]; exact hI
    have m_1 : g1 56 = .inl (k.2.1.2.2, 1, .inr (.inl (vp_updL fo 0 ((nI (z (slt fi (tn p0)))).toInt64)))) := by rw [hg1, va_up_self]
    refine lv_goto (tgt := 15) hx hb dL_length_9 (by decide) ?_
    refine lv_iconst (v := nI 0) hx hb dL_length_15 (by decide) ?_
    exact m_iret hx hb hr hlocks hI (Or.inl (⟨rfl, hok0, ⟨_, m_1, if_pos rfl⟩, CR.kept hC (fun i hi => by rw [hg1, va_up_ne _ _ (by omega)]), fun i h1 h2 => by rw [hg1, va_up_ne _ _ h2]⟩)) dL_length_16
set_option maxHeartbeats 8000000 in
set_option maxRecDepth 100000 in
theorem c_L_count (k : mC) (l : Launch) (hst : l.stackTraces = false) (ad : Nat → Nat) (N : Nat) (g : Nat → va_E) (sz : Nat) (uns : Bool) (play rd n : Nat) (lat : Nat → Int32) (gar T : Nat → Nat) (came : Nat) (mis lost bel : Int32) (fig : Bool) (fi u : Nat) (z : Nat → Nat) (F : Nat → Nat → Nat) (r : Nat → Option Nat) (p0 : Int32) (fo : Nat → Int64) (hN : 57 ≤ N) (hW : CW play rd n lat gar T) (hwf : cWf (fi, u, z, F)) (hcame : came < 2000000000) (hC : CR k ad g uns play rd n lat gar T (came, mis, lost, bel, fig, fi, u, z, F) r) (h56 : g 56 = .inl (k.2.1.2.2, 1, .inr (.inl fo))) : Met l yL_count wsL_count { frames := 7, cells := 1, slots := 6, locals := 103 } (mPc k ad N g sz [.ref (ad 0), .int p0, .ref (ad 56)]) (va_Qi (fun r1 g1 => (r1 = nI 0 ∧ inN p0 11 = true ∧ (∃ fo1 : Nat → Int64, g1 56 = .inl (k.2.1.2.2, 1, .inr (.inl fo1)) ∧ fo1 0 = (cntV u (sumz z fi u) fig play n rd came mis lost uns bel (tn p0)).toInt64) ∧ CR k ad g1 uns play rd n lat gar T (came, mis, lost, bel, fig, fi, u, z, F) r ∧ ∀ i, 50 ≤ i → i ≠ 56 → g1 i = g i) ∨ (r1 = nI 1 ∧ inN p0 11 = false ∧ g1 = g)) (mB k ad N) (mA ad N sz)) 1 6 (mA ad N sz) := by
  refine mOfH (k := k) (l := l) (y := yL_count) (ws := wsL_count) (ad := ad) (N := N) (g := g) (sz := sz) (mc := 1) (ms := 6) (av := [.ref (ad 0), .int p0, .ref (ad 56)]) (Qc := fun z9 => va_Qi (fun r1 g1 => (r1 = nI 0 ∧ inN p0 11 = true ∧ (∃ fo1 : Nat → Int64, g1 56 = .inl (k.2.1.2.2, 1, .inr (.inl fo1)) ∧ fo1 0 = (cntV u (sumz z fi u) fig play n rd came mis lost uns bel (tn p0)).toInt64) ∧ CR k ad g1 uns play rd n lat gar T (came, mis, lost, bel, fig, fi, u, z, F) r ∧ ∀ i, 50 ≤ i → i ≠ 56 → g1 i = g i) ∨ (r1 = nI 1 ∧ inN p0 11 = false ∧ g1 = g)) (mB k ad N) (mA ad N z9)) (cc := cL_count) (maxL := 4) (ret := (some .int)) (hh := [(0, 9, 12, 13)]) (by decide) rfl (Nat.le_of_ble_eq_true rfl) ?_
  intro p e s m below meth c hx hb hr hts hown hlocks hml htab hE hI ls hl
  have hl : lv_has ls 4 [(0, .ref (ad 0)), (1, .int p0), (2, .ref (ad 56))] := hl
  have h0 : g 0 = .inr (3, [.ref (ad 1), .ref (ad 6), .ref (ad 48), .int (nI rd), .int (bI fig), .int (bI uns), .int (nI came), .int mis, .int lost, .int bel]) := hC.1
  refine lv_aload_n hx hb dL_count_0 rfl (lv_at hl 2 rfl) ?_
  refine lv_iconst (v := nI 0) hx hb dL_count_1 (by decide) ?_
  refine lv_aload_n hx hb dL_count_2 rfl (lv_at hl 0 rfl) ?_
  refine lv_iload_n hx hb dL_count_3 rfl (lv_at hl 1 rfl) ?_
  refine m_callVx (As := [.int p0]) (rest := [.int (nI 0), .ref (ad 56)]) ⟨hx, hb, hml, hown, hts⟩ hE hI (c_X3_count k l hst ad N g _ uns play rd n lat gar T came mis lost bel fig fi u z F r p0 (by omega) hW hwf hcame hC) (cwV 1 hts gL_count_X3_count rfl rfl rfl (by decide +kernel) ⟨Nat.le_of_ble_eq_true rfl, Nat.le_of_ble_eq_true rfl⟩) (i := 0) (by omega) h0 rfl rfl hl.1 rfl (Nat.le_of_ble_eq_true rfl) dL_count_4 ⟨Nat.le_of_ble_eq_true rfl, Nat.le_of_ble_eq_true rfl⟩ (fun E ce q9 H locs hxp hI hce hcv hcl => ?_) (fun r9 g9 H locs hp hI => ?_)
  · obtain ⟨rfl, hbad0⟩ := hxp
    refine vx_catch hown [] _ [] htab (fun z9 hz9 => absurd hz9 List.not_mem_nil) rfl (by decide) (hts (.classLink RL 13 "java/lang/IndexOutOfBoundsException") (by decide +kernel)) (va_Nw.use rfl (hE.1.2.2.2.2.2.2.1 "java/lang/IndexOutOfBoundsException" (by decide))) hce hcv hcl ?_
    show W p l e _ s m _ below meth c _ _ _ _ _ (F0 m 12 ls [.ref q9])
    refine lv_astore_n (lv' := [(3, .ref q9), (0, .ref (ad 0)), (1, .int p0), (2, .ref (ad 56))]) hx hb dL_count_12 rfl hl (by decide) rfl (fun ls hl => ?_)
    refine lv_iconst (v := nI 1) hx hb dL_count_13 (by decide) ?_
    exact m_iret hx hb hr hlocks hI (Or.inr (⟨rfl, hbad0, rfl⟩)) dL_count_14
  · obtain ⟨hok0, hrr, hgg⟩ := hp
    rw [hgg] at hI
    subst hrr
    refine lv_i2l (v := (cntV u (sumz z fi u) fig play n rd came mis lost uns bel (tn p0)).toInt64) hx hb dL_count_7 rfl ?_
    refine m_last hx hb hE hI 56 (by omega) (j := 0) h56 (by omega) (by omega) dL_count_8 (fun H locs hI => ?_)
    obtain ⟨g1, hg1⟩ : ∃ zz, zz = va_up g 56 (.inl (k.2.1.2.2, 1, .inr (.inl (vp_updL fo 0 ((cntV u (sumz z fi u) fig play n rd came mis lost uns bel (tn p0)).toInt64))))) := ⟨_, rfl⟩
    replace hI : mI k ad N g1 (mA ad N s.heap.size) s H locs := by rw [hg1]; exact hI
    have m_1 : g1 56 = .inl (k.2.1.2.2, 1, .inr (.inl (vp_updL fo 0 ((cntV u (sumz z fi u) fig play n rd came mis lost uns bel (tn p0)).toInt64)))) := by rw [hg1, va_up_self]
    refine lv_goto (tgt := 15) hx hb dL_count_9 (by decide) ?_
    refine lv_iconst (v := nI 0) hx hb dL_count_15 (by decide) ?_
    exact m_iret hx hb hr hlocks hI (Or.inl (⟨rfl, hok0, ⟨_, m_1, if_pos rfl⟩, CR.kept hC (fun i hi => by rw [hg1, va_up_ne _ _ (by omega)]), fun i h1 h2 => by rw [hg1, va_up_ne _ _ h2]⟩)) dL_count_16
set_option maxHeartbeats 8000000 in
set_option maxRecDepth 100000 in
theorem c_L_would (k : mC) (l : Launch) (hst : l.stackTraces = false) (ad : Nat → Nat) (N : Nat) (g : Nat → va_E) (sz : Nat) (uns : Bool) (play rd n : Nat) (lat : Nat → Int32) (gar T : Nat → Nat) (came : Nat) (mis lost bel : Int32) (fig : Bool) (fi u : Nat) (z : Nat → Nat) (F : Nat → Nat → Nat) (r : Nat → Option Nat) (p0 : Int32) (fo : Nat → Int64) (hN : 57 ≤ N) (hW : CW play rd n lat gar T) (hwf : cWf (fi, u, z, F)) (hcame : came < 2000000000) (hC : CR k ad g uns play rd n lat gar T (came, mis, lost, bel, fig, fi, u, z, F) r) (h56 : g 56 = .inl (k.2.1.2.2, 1, .inr (.inl fo))) : Met l yL_would wsL_would { frames := 7, cells := 1, slots := 6, locals := 103 } (mPc k ad N g sz [.ref (ad 0), .int p0, .ref (ad 56)]) (va_Qi (fun r1 g1 => (r1 = nI 0 ∧ inN p0 32 = true ∧ (∃ fo1 : Nat → Int64, g1 56 = .inl (k.2.1.2.2, 1, .inr (.inl fo1)) ∧ fo1 0 = (nI (rdY play lat gar came (tn p0))).toInt64) ∧ CR k ad g1 uns play rd n lat gar T (came, mis, lost, bel, fig, fi, u, z, F) r ∧ ∀ i, 50 ≤ i → i ≠ 56 → g1 i = g i) ∨ (r1 = nI 1 ∧ inN p0 32 = false ∧ g1 = g)) (mB k ad N) (mA ad N sz)) 1 6 (mA ad N sz) := by
  refine mOfH (k := k) (l := l) (y := yL_would) (ws := wsL_would) (ad := ad) (N := N) (g := g) (sz := sz) (mc := 1) (ms := 6) (av := [.ref (ad 0), .int p0, .ref (ad 56)]) (Qc := fun z9 => va_Qi (fun r1 g1 => (r1 = nI 0 ∧ inN p0 32 = true ∧ (∃ fo1 : Nat → Int64, g1 56 = .inl (k.2.1.2.2, 1, .inr (.inl fo1)) ∧ fo1 0 = (nI (rdY play lat gar came (tn p0))).toInt64) ∧ CR k ad g1 uns play rd n lat gar T (came, mis, lost, bel, fig, fi, u, z, F) r ∧ ∀ i, 50 ≤ i → i ≠ 56 → g1 i = g i) ∨ (r1 = nI 1 ∧ inN p0 32 = false ∧ g1 = g)) (mB k ad N) (mA ad N z9)) (cc := cL_would) (maxL := 4) (ret := (some .int)) (hh := [(0, 9, 12, 13)]) (by decide) rfl (Nat.le_of_ble_eq_true rfl) ?_
  intro p e s m below meth c hx hb hr hts hown hlocks hml htab hE hI ls hl
  have hl : lv_has ls 4 [(0, .ref (ad 0)), (1, .int p0), (2, .ref (ad 56))] := hl
  have h0 : g 0 = .inr (3, [.ref (ad 1), .ref (ad 6), .ref (ad 48), .int (nI rd), .int (bI fig), .int (bI uns), .int (nI came), .int mis, .int lost, .int bel]) := hC.1
  refine lv_aload_n hx hb dL_would_0 rfl (lv_at hl 2 rfl) ?_
  refine lv_iconst (v := nI 0) hx hb dL_would_1 (by decide) ?_
  refine lv_aload_n hx hb dL_would_2 rfl (lv_at hl 0 rfl) ?_
  refine lv_iload_n hx hb dL_would_3 rfl (lv_at hl 1 rfl) ?_
  refine m_callVx (As := [.int p0]) (rest := [.int (nI 0), .ref (ad 56)]) ⟨hx, hb, hml, hown, hts⟩ hE hI (c_X3_would k l hst ad N g _ uns play rd n lat gar T came mis lost bel fig fi u z F r p0 (by omega) hW hwf hcame hC) (cwV 1 hts gL_would_X3_would rfl rfl rfl (by decide +kernel) ⟨Nat.le_of_ble_eq_true rfl, Nat.le_of_ble_eq_true rfl⟩) (i := 0) (by omega) h0 rfl rfl hl.1 rfl (Nat.le_of_ble_eq_true rfl) dL_would_4 ⟨Nat.le_of_ble_eq_true rfl, Nat.le_of_ble_eq_true rfl⟩ (fun E ce q9 H locs hxp hI hce hcv hcl => ?_) (fun r9 g9 H locs hp hI => ?_)
  · obtain ⟨rfl, hbad0⟩ := hxp
    refine vx_catch hown [] _ [] htab (fun z9 hz9 => absurd hz9 List.not_mem_nil) rfl (by decide) (hts (.classLink RL 13 "java/lang/IndexOutOfBoundsException") (by decide +kernel)) (va_Nw.use rfl (hE.1.2.2.2.2.2.2.1 "java/lang/IndexOutOfBoundsException" (by decide))) hce hcv hcl ?_
    show W p l e _ s m _ below meth c _ _ _ _ _ (F0 m 12 ls [.ref q9])
    refine lv_astore_n (lv' := [(3, .ref q9), (0, .ref (ad 0)), (1, .int p0), (2, .ref (ad 56))]) hx hb dL_would_12 rfl hl (by decide) rfl (fun ls hl => ?_)
    refine lv_iconst (v := nI 1) hx hb dL_would_13 (by decide) ?_
    exact m_iret hx hb hr hlocks hI (Or.inr (⟨rfl, hbad0, rfl⟩)) dL_would_14
  · obtain ⟨hok0, hrr, hgg⟩ := hp
    rw [hgg] at hI
    subst hrr
    refine lv_i2l (v := (nI (rdY play lat gar came (tn p0))).toInt64) hx hb dL_would_7 rfl ?_
    refine m_last hx hb hE hI 56 (by omega) (j := 0) h56 (by omega) (by omega) dL_would_8 (fun H locs hI => ?_)
    obtain ⟨g1, hg1⟩ : ∃ zz, zz = va_up g 56 (.inl (k.2.1.2.2, 1, .inr (.inl (vp_updL fo 0 ((nI (rdY play lat gar came (tn p0))).toInt64))))) := ⟨_, rfl⟩
    replace hI : mI k ad N g1 (mA ad N s.heap.size) s H locs := by rw [hg1]; exact hI
    have m_1 : g1 56 = .inl (k.2.1.2.2, 1, .inr (.inl (vp_updL fo 0 ((nI (rdY play lat gar came (tn p0))).toInt64)))) := by rw [hg1, va_up_self]
    refine lv_goto (tgt := 15) hx hb dL_would_9 (by decide) ?_
    refine lv_iconst (v := nI 0) hx hb dL_would_15 (by decide) ?_
    exact m_iret hx hb hr hlocks hI (Or.inl (⟨rfl, hok0, ⟨_, m_1, if_pos rfl⟩, CR.kept hC (fun i hi => by rw [hg1, va_up_ne _ _ (by omega)]), fun i h1 h2 => by rw [hg1, va_up_ne _ _ h2]⟩)) dL_would_16
set_option maxHeartbeats 8000000 in
set_option maxRecDepth 100000 in
theorem c_L_prints (k : mC) (l : Launch) (hst : l.stackTraces = false) (ad : Nat → Nat) (N : Nat) (g : Nat → va_E) (sz : Nat) (uns : Bool) (play rd n : Nat) (lat : Nat → Int32) (gar T : Nat → Nat) (came : Nat) (mis lost bel : Int32) (fig : Bool) (fi u : Nat) (z : Nat → Nat) (F : Nat → Nat → Nat) (r : Nat → Option Nat) (p0 : Int32) (fo : Nat → Int64) (hN : 57 ≤ N) (hW : CW play rd n lat gar T) (hwf : cWf (fi, u, z, F)) (hcame : came < 2000000000) (hC : CR k ad g uns play rd n lat gar T (came, mis, lost, bel, fig, fi, u, z, F) r) (h56 : g 56 = .inl (k.2.1.2.2, 1, .inr (.inl fo))) : Met l yL_prints wsL_prints { frames := 7, cells := 1, slots := 6, locals := 103 } (mPc k ad N g sz [.ref (ad 0), .int p0, .ref (ad 56)]) (va_Qi (fun r1 g1 => (r1 = nI 0 ∧ inN p0 n = true ∧ (∃ fo1 : Nat → Int64, g1 56 = .inl (k.2.1.2.2, 1, .inr (.inl fo1)) ∧ fo1 0 = (nI (chF (T (tn p0)) (fa uns T (tn p0)))).toInt64) ∧ CR k ad g1 uns play rd n lat gar T (came, mis, lost, bel, fig, fi, u, z, F) r ∧ ∀ i, 50 ≤ i → i ≠ 56 → g1 i = g i) ∨ (r1 = nI 1 ∧ inN p0 n = false ∧ g1 = g)) (mB k ad N) (mA ad N sz)) 1 6 (mA ad N sz) := by
  refine mOfH (k := k) (l := l) (y := yL_prints) (ws := wsL_prints) (ad := ad) (N := N) (g := g) (sz := sz) (mc := 1) (ms := 6) (av := [.ref (ad 0), .int p0, .ref (ad 56)]) (Qc := fun z9 => va_Qi (fun r1 g1 => (r1 = nI 0 ∧ inN p0 n = true ∧ (∃ fo1 : Nat → Int64, g1 56 = .inl (k.2.1.2.2, 1, .inr (.inl fo1)) ∧ fo1 0 = (nI (chF (T (tn p0)) (fa uns T (tn p0)))).toInt64) ∧ CR k ad g1 uns play rd n lat gar T (came, mis, lost, bel, fig, fi, u, z, F) r ∧ ∀ i, 50 ≤ i → i ≠ 56 → g1 i = g i) ∨ (r1 = nI 1 ∧ inN p0 n = false ∧ g1 = g)) (mB k ad N) (mA ad N z9)) (cc := cL_prints) (maxL := 4) (ret := (some .int)) (hh := [(0, 9, 12, 13)]) (by decide) rfl (Nat.le_of_ble_eq_true rfl) ?_
  intro p e s m below meth c hx hb hr hts hown hlocks hml htab hE hI ls hl
  have hl : lv_has ls 4 [(0, .ref (ad 0)), (1, .int p0), (2, .ref (ad 56))] := hl
  have h0 : g 0 = .inr (3, [.ref (ad 1), .ref (ad 6), .ref (ad 48), .int (nI rd), .int (bI fig), .int (bI uns), .int (nI came), .int mis, .int lost, .int bel]) := hC.1
  refine lv_aload_n hx hb dL_prints_0 rfl (lv_at hl 2 rfl) ?_
  refine lv_iconst (v := nI 0) hx hb dL_prints_1 (by decide) ?_
  refine lv_aload_n hx hb dL_prints_2 rfl (lv_at hl 0 rfl) ?_
  refine lv_iload_n hx hb dL_prints_3 rfl (lv_at hl 1 rfl) ?_
  refine m_callVx (As := [.int p0]) (rest := [.int (nI 0), .ref (ad 56)]) ⟨hx, hb, hml, hown, hts⟩ hE hI (c_X3_prints k l hst ad N g _ uns play rd n lat gar T came mis lost bel fig fi u z F r p0 (by omega) hW hwf hcame hC) (cwV 1 hts gL_prints_X3_prints rfl rfl rfl (by decide +kernel) ⟨Nat.le_of_ble_eq_true rfl, Nat.le_of_ble_eq_true rfl⟩) (i := 0) (by omega) h0 rfl rfl hl.1 rfl (Nat.le_of_ble_eq_true rfl) dL_prints_4 ⟨Nat.le_of_ble_eq_true rfl, Nat.le_of_ble_eq_true rfl⟩ (fun E ce q9 H locs hxp hI hce hcv hcl => ?_) (fun r9 g9 H locs hp hI => ?_)
  · obtain ⟨rfl, hbad0⟩ := hxp
    refine vx_catch hown [] _ [] htab (fun z9 hz9 => absurd hz9 List.not_mem_nil) rfl (by decide) (hts (.classLink RL 13 "java/lang/IndexOutOfBoundsException") (by decide +kernel)) (va_Nw.use rfl (hE.1.2.2.2.2.2.2.1 "java/lang/IndexOutOfBoundsException" (by decide))) hce hcv hcl ?_
    show W p l e _ s m _ below meth c _ _ _ _ _ (F0 m 12 ls [.ref q9])
    refine lv_astore_n (lv' := [(3, .ref q9), (0, .ref (ad 0)), (1, .int p0), (2, .ref (ad 56))]) hx hb dL_prints_12 rfl hl (by decide) rfl (fun ls hl => ?_)
    refine lv_iconst (v := nI 1) hx hb dL_prints_13 (by decide) ?_
    exact m_iret hx hb hr hlocks hI (Or.inr (⟨rfl, hbad0, rfl⟩)) dL_prints_14
  · obtain ⟨hok0, hrr, hgg⟩ := hp
    rw [hgg] at hI
    subst hrr
    refine lv_i2l (v := (nI (chF (T (tn p0)) (fa uns T (tn p0)))).toInt64) hx hb dL_prints_7 rfl ?_
    refine m_last hx hb hE hI 56 (by omega) (j := 0) h56 (by omega) (by omega) dL_prints_8 (fun H locs hI => ?_)
    obtain ⟨g1, hg1⟩ : ∃ zz, zz = va_up g 56 (.inl (k.2.1.2.2, 1, .inr (.inl (vp_updL fo 0 ((nI (chF (T (tn p0)) (fa uns T (tn p0)))).toInt64))))) := ⟨_, rfl⟩
    replace hI : mI k ad N g1 (mA ad N s.heap.size) s H locs := by rw [hg1]; exact hI
    have m_1 : g1 56 = .inl (k.2.1.2.2, 1, .inr (.inl (vp_updL fo 0 ((nI (chF (T (tn p0)) (fa uns T (tn p0)))).toInt64)))) := by rw [hg1, va_up_self]
    refine lv_goto (tgt := 15) hx hb dL_prints_9 (by decide) ?_
    refine lv_iconst (v := nI 0) hx hb dL_prints_15 (by decide) ?_
    exact m_iret hx hb hr hlocks hI (Or.inl (⟨rfl, hok0, ⟨_, m_1, if_pos rfl⟩, CR.kept hC (fun i hi => by rw [hg1, va_up_ne _ _ (by omega)]), fun i h1 h2 => by rw [hg1, va_up_ne _ _ h2]⟩)) dL_prints_16
