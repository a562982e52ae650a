
/-! the beginning: classes, arrays, letters -/
theorem k_arr {ty : FieldType} {args : Array Value} {s : State} (h : (Cond.arrayClass ty).before args s = true) : ∃ cA : ClassId, ArrOfT s cA ty ∧ s.vm.findClass ("[" ++ ty.toString) = some cA := by
  obtain ⟨cA, kA, comp, h1, h2, h3⟩ := Cond.arrayClass_spec h
  exact ⟨cA, fun n z => ⟨fun k g => (by cases g), kA, h2, comp, h3⟩, h1⟩
theorem k_arq {C : String} {args : Array Value} {s : State} (h : (Cond.arrayOver (.object C)).before args s = true) : ∃ cA : ClassId, ArrOfT s cA (.object C) ∧ va_RA s cA (.object C) := by
  obtain ⟨comp, cA, kA, h1, h2, h3, h4, h5⟩ := Cond.arrayOver_spec h
  exact ⟨cA, fun n z => ⟨fun k g => (by cases g), kA, h3, comp, h4⟩, kA, comp, h3, h4, h1, h5⟩
theorem k_cls {args : Array Value} {s : State} (hts : ∀ w ∈ WT, w.before args s = true) : ∃ D : va_G, ∀ (k : Nat) (q : vw_C), vwCl[k]? = some q → u_Kn s q.1 q.2.1 q.2.2 (D.1 k) (D.2 k) := by
  obtain ⟨c0, i0, k0⟩ := u_known (C := RX0) (T := TX0) (N := 9) (n := 9) hts inX0 (hts _ q_189)
  obtain ⟨c1, i1, k1⟩ := u_known (C := RX2) (T := TX2) (N := 4) (n := 4) hts inX2 (hts _ q_102)
  obtain ⟨c2, i2, k2⟩ := u_known (C := RX3) (T := TX3) (N := 4) (n := 4) hts inX3 (hts _ q_341)
  obtain ⟨c3, i3, k3⟩ := u_known (C := RX4) (T := TX4) (N := 5) (n := 5) hts inX4 (hts _ q_501)
  obtain ⟨c4, i4, k4⟩ := u_known (C := RX6) (T := TX6) (N := 12) (n := 12) hts inX6 (hts _ q_90)
  obtain ⟨c5, i5, k5⟩ := u_known (C := RX7) (T := TX7) (N := 32) (n := 32) hts inX7 (hts _ q_725)
  refine ⟨(fun k => if k = 0 then c0 else if k = 1 then c1 else if k = 2 then c2 else if k = 3 then c3 else if k = 4 then c4 else c5, fun k => if k = 0 then i0 else if k = 1 then i1 else if k = 2 then i2 else if k = 3 then i3 else if k = 4 then i4 else i5), ?_⟩
  intro k q hq
  match k, hq with
  | 0, hq => cases hq; exact k0
  | 1, hq => cases hq; exact k1
  | 2, hq => cases hq; exact k2
  | 3, hq => cases hq; exact k3
  | 4, hq => cases hq; exact k4
  | 5, hq => cases hq; exact k5
  | k + 6, hq =>
    have h6 := (List.getElem?_eq_some_iff.mp hq).1
    exact absurd h6 (by show ¬ k + 6 < 6; omega)
theorem k_let {args : Array Value} {s : State} (hl : (Cond.laysStatic "PuzzleParts$FormulaText" "LETTERS" "[J").before args s = true) (hini : (Cond.initialized "PuzzleParts$FormulaText").before args s = true) (hgv : (Jvm.Cond.and given_1 narrow_1).before args s = true) : ∃ Z : Nat × Cell × Nat × Cell, gZ Z s ∧ ∀ G : Gt, G.2.2 = Z → gLH G s.heap.size s.heap := by
  have hs := flat_of_before _ hgv
  have g0 : (Cond.arrayOf (.static "PuzzleParts$FormulaText" "LETTERS" "[J") .long).before args s = true := hs _ (by decide +kernel)
  have g1 : (Cond.eq (.length (.static "PuzzleParts$FormulaText" "LETTERS" "[J")) (.int 5)).before args s = true := hs _ (by decide +kernel)
  have e0 : (Cond.eq (.elem (.static "PuzzleParts$FormulaText" "LETTERS" "[J") (.int 0)) (.long 2863311530)).before args s = true := hs _ (by decide +kernel)
  have e1 : (Cond.eq (.elem (.static "PuzzleParts$FormulaText" "LETTERS" "[J") (.int 1)) (.long 3435973836)).before args s = true := hs _ (by decide +kernel)
  have e2 : (Cond.eq (.elem (.static "PuzzleParts$FormulaText" "LETTERS" "[J") (.int 2)) (.long 4042322160)).before args s = true := hs _ (by decide +kernel)
  have e3 : (Cond.eq (.elem (.static "PuzzleParts$FormulaText" "LETTERS" "[J") (.int 3)) (.long 4278255360)).before args s = true := hs _ (by decide +kernel)
  have e4 : (Cond.eq (.elem (.static "PuzzleParts$FormulaText" "LETTERS" "[J") (.int 4)) (.long 4294901760)).before args s = true := hs _ (by decide +kernel)
  obtain ⟨t, ht, cell, h1, h2, h3, h4, h5, h6, -⟩ := va_Tof (N := 5) (f := fun j => .long (lN (ltW j))) (A := fun _ => False) (by decide) g0 (va_eqt g1) (fun j hj => by
    rcases (show j = 0 ∨ j = 1 ∨ j = 2 ∨ j = 3 ∨ j = 4 by omega) with rfl | rfl | rfl | rfl | rfl
    · exact va_eqtl e0
    · exact va_eqtl e1
    · exact va_eqtl e2
    · exact va_eqtl e3
    · exact va_eqtl e4) (fun _ _ z => z)
  obtain ⟨cf, kf, fi, f, a, cs, z1, z2, z3, z4, z5, z6, z7, -⟩ := va_Zref hl hini ht (A := fun _ => False) (fun _ _ z => z)
  refine ⟨(t, cell, a, cs), ⟨cf, kf, fi, f, z1, z2, z3, z4, z6, z7, h2⟩, ?_⟩
  intro G hG
  obtain ⟨G0, G1, Z⟩ := G
  cases hG
  exact ⟨⟨(Array.getElem?_eq_some_iff.mp h1).1, (Array.getElem?_eq_some_iff.mp z5).1⟩, z5, h1, h3, ⟨h4, h5⟩, h6⟩
theorem k_all {args : Array Value} {s : State} (hts : ∀ w ∈ lw_tbl, w.before args s = true) (hgv : (Jvm.Cond.and given_1 narrow_1).before args s = true) : ∃ G : Gt, gK G s ∧ gLH G s.heap.size s.heap := by
  have htw : ∀ w ∈ WT, w.before args s = true := fun w hw => hts w (List.mem_filter.mp hw).1
  obtain ⟨D, hD⟩ := k_cls htw
  obtain ⟨a0, b0, d0⟩ := k_arr (htw _ q_122)
  obtain ⟨a1, b1, d1⟩ := k_arr (htw _ q_123)
  have w98 : (Cond.arrayOver (.object "PuzzleParts$Board")).before args s = true := hts _ (List.mem_of_getElem? (i := 98) (by decide +kernel))
  have w100 : (Cond.arrayOver (.object "PuzzleParts$Net")).before args s = true := hts _ (List.mem_of_getElem? (i := 100) (by decide +kernel))
  obtain ⟨a2, b2, d2⟩ := k_arq w98
  obtain ⟨a3, b3, d3⟩ := k_arq w100
  obtain ⟨Z, hZ, hLH⟩ := k_let (hts _ (List.mem_of_getElem? (i := 391) (by decide +kernel))) (htw _ q_86) hgv
  refine ⟨(D, fun k => if k = 0 then a0 else if k = 1 then a1 else if k = 2 then a2 else a3, Z), ⟨⟨hD, ?_⟩, ⟨va_Nw.of rfl (hts _ (List.mem_of_getElem? (i := 103) (by decide +kernel))), va_Nw.of rfl (hts _ (List.mem_of_getElem? (i := 502) (by decide +kernel))), va_Nw.of rfl (hts _ (List.mem_of_getElem? (i := 713) (by decide +kernel))), va_AO.of w98, va_AO.of w100⟩, hZ⟩, hLH _ rfl⟩
  intro k q hq
  match k, hq with
  | 0, hq => cases hq; exact ⟨b0, d0⟩
  | 1, hq => cases hq; exact ⟨b1, d1⟩
  | 2, hq => cases hq; exact ⟨b2, d2⟩
  | 3, hq => cases hq; exact ⟨b3, d3⟩
  | k + 4, hq =>
    have h6 := (List.getElem?_eq_some_iff.mp hq).1
    exact absurd h6 (by show ¬ k + 4 < 4; omega)

set_option maxHeartbeats 4000000 in
set_option maxRecDepth 100000 in
theorem whole_start {p : Program} {e : Env} {s : State} {m : MethodId} {below : List Frame} {meth : Method} {c : Code} (l : Launch) (hflags : l.flags = flags0) {b L : Nat} {xs : Nat → Int32} (hL : L ≤ 2048) (C0 : lw_At p s m meth c b L xs) : W p l e room_1 s m #[Value.ref b] below meth c s.heap [] 0 0 (lw_Z below #[Value.ref b] s) (entryFrame m ([Value.ref b] : List Value).toArray 4) := by
  obtain ⟨hx, hb, hr, hml, hown, hts, hX, hbl, hlocks, hgv⟩ := id C0
  obtain ⟨G, hK, hLH⟩ := k_all hts hgv
  have S : CallFix p m c cL_law 4 s #[.ref b] WT RL := ⟨hx, hb, hml, hown, fun w hw => hts w (List.mem_filter.mp hw).1⟩
  have hS : va_S (fun q : Nat => s.heap.size ≤ q) s.heap s.heap [] := va_S.rf
  have hl := lv_entry ([.ref b]) (n := 4) (Nat.le_of_ble_eq_true rfl)
  rw [lg_entry_eq]
  generalize (lg_sl ([.ref b]) ++ List.replicate (4 - (lg_sl ([.ref b])).length) Slot.unset).toArray = ls at hl ⊢
  have hl : lv_has ls 4 [(0, .ref b)] := hl
  refine kn (C := RX6) (T := TX6) (N := 12) (ci := 4) tyX6 tyX6_ok S hK rfl inX6 q_89 q_90 q_79 [.null, .int (nI 0), .null, .int (nI 0), .null, .int (nI 0), .null, .int (nI 0), .null, .int (nI 0), .null, .null] (fun j hj => by rcases (show j = 0 ∨ j = 1 ∨ j = 2 ∨ j = 3 ∨ j = 4 ∨ j = 5 ∨ j = 6 ∨ j = 7 ∨ j = 8 ∨ j = 9 ∨ j = 10 ∨ j = 11 by omega) with rfl | rfl | rfl | rfl | rfl | rfl | rfl | rfl | rfl | rfl | rfl | rfl <;> rfl) dL_law_0 (Nat.le_of_ble_eq_true rfl) (Nat.le_of_ble_eq_true rfl) (h := s.heap.size) rfl hS (fun H hT hS hz hk => ?_)
  refine lv_dup hx hb dL_law_3 rfl ?_
  refine ctI (rest := [.ref s.heap.size]) S hK (c_X6_init l G s.heap.size) cw_L_9 rfl ⟨Nat.le_of_ble_eq_true rfl, Nat.le_of_ble_eq_true rfl⟩ ⟨Nat.le_of_ble_eq_true rfl, Nat.le_of_ble_eq_true rfl⟩ hl.1 rfl (Nat.le_of_ble_eq_true rfl) dL_law_4 ⟨hT, hz⟩ hS (fun _ h => h) (fun H locs hP hz1 hk1 hS => ?_)
  obtain ⟨hXo, hF, hR, hz⟩ := hP
  refine lv_astore_n (lv' := [(1, .ref s.heap.size), (0, .ref b)]) hx hb dL_law_7 rfl hl (by decide) rfl (fun ls hl => ?_)
  refine kn (C := RX7) (T := TX7) (N := 32) (ci := 5) tyX7 tyX7_ok S hK rfl inX7 q_724 q_725 q_81 [.null, .null, .null, .null, .null, .null, .null, .null, .null, .null, .null, .null, .null, .null, .null, .null, .int (nI 0), .int (nI 0), .int (nI 0), .int (nI 0), .int (nI 0), .null, .int (nI 0), .int (nI 0), .int (nI 0), .int (nI 0), .int (nI 0), .int (nI 0), .null, .int (nI 0), .null, .null] (fun j hj => by rcases (show j = 0 ∨ j = 1 ∨ j = 2 ∨ j = 3 ∨ j = 4 ∨ j = 5 ∨ j = 6 ∨ j = 7 ∨ j = 8 ∨ j = 9 ∨ j = 10 ∨ j = 11 ∨ j = 12 ∨ j = 13 ∨ j = 14 ∨ j = 15 ∨ j = 16 ∨ j = 17 ∨ j = 18 ∨ j = 19 ∨ j = 20 ∨ j = 21 ∨ j = 22 ∨ j = 23 ∨ j = 24 ∨ j = 25 ∨ j = 26 ∨ j = 27 ∨ j = 28 ∨ j = 29 ∨ j = 30 ∨ j = 31 by omega) with rfl | rfl | rfl | rfl | rfl | rfl | rfl | rfl | rfl | rfl | rfl | rfl | rfl | rfl | rfl | rfl | rfl | rfl | rfl | rfl | rfl | rfl | rfl | rfl | rfl | rfl | rfl | rfl | rfl | rfl | rfl | rfl <;> rfl) dL_law_8 (Nat.le_of_ble_eq_true rfl) (Nat.le_of_ble_eq_true rfl) (h := s.heap.size + 11) hz hS (fun H hT hS hz hk => ?_)
  replace hXo := hXo.kept (fun q h1 h2 => hk q (by have h3 : q < s.heap.size + 6 := h2; omega))
  replace hF := hF.kept (fun q h1 h2 => hk q (by have h3 : q < s.heap.size + 6 + 4 := h2; omega))
  replace hR := hR.kept (fun q h1 h2 => hk q (by have h3 : q < s.heap.size + 10 + 1 := h2; omega))
  refine lv_dup hx hb dL_law_11 rfl ?_
  refine ctI (rest := [.ref (s.heap.size + 11)]) S hK (c_X7_init l G (s.heap.size + 11)) cw_L_12 rfl ⟨Nat.le_of_ble_eq_true rfl, Nat.le_of_ble_eq_true rfl⟩ ⟨Nat.le_of_ble_eq_true rfl, Nat.le_of_ble_eq_true rfl⟩ hl.1 rfl (Nat.le_of_ble_eq_true rfl) dL_law_12 ⟨hT, hz⟩ hS (fun q h => by omega) (fun H locs hP hz1 hk1 hS => ?_)
  obtain ⟨hM, hz2⟩ := hP
  replace hXo := hXo.kept (fun q h1 h2 => hk1 q (by have h3 : q < s.heap.size + 6 := h2; omega) (by have h3 : q < s.heap.size + 6 := h2; omega))
  replace hF := hF.kept (fun q h1 h2 => hk1 q (by have h3 : q < s.heap.size + 6 + 4 := h2; omega) (by have h3 : q < s.heap.size + 6 + 4 := h2; omega))
  replace hR := hR.kept (fun q h1 h2 => hk1 q (by have h3 : q < s.heap.size + 10 + 1 := h2; omega) (by have h3 : q < s.heap.size + 10 + 1 := h2; omega))
  refine lv_astore_n (lv' := [(2, .ref (s.heap.size + 11)), (1, .ref s.heap.size), (0, .ref b)]) hx hb dL_law_15 rfl hl (by decide) rfl (fun ls hl => ?_)
  refine lv_iconst (v := nI 0) hx hb dL_law_16 (by decide) ?_
  refine lv_istore_n (lv' := [(3, .int (nI 0)), (2, .ref (s.heap.size + 11)), (1, .ref s.heap.size), (0, .ref b)]) hx hb dL_law_17 rfl hl (by decide) rfl (fun ls hl => ?_)
  refine W.widen (k := 100 + 8 * 0) (n := 3000 + 132 * 0) (Nat.le_of_ble_eq_true rfl) (Nat.le_of_ble_eq_true rfl) ?_
  exact law_loop hr hlocks S hK hX hbl hL (L + 1) 0 H locs ls (by omega) (by omega) hS ⟨m0, IV_m0, CW_0 (by omega) (by omega) (gLH_S hLH hS (fun q hq z => by omega)) hXo hF hR, hM⟩ hl

set_option maxHeartbeats 4000000 in
theorem lw_walk (l : Launch) (hflags : l.flags = flags0) (b : Addr) (xs : List Int32) : MetFree l x (headSpec (Jvm.Cond.code x code maxLocals ret :: tables_1) room_1) (lw_P b xs) (fun _ _ _ _ _ => True) lw_Q := by
  refine MetFree.of_bodyS (code := code) (maxLocals := maxLocals) (ret := ret) (by decide) ?_ ?_
  · intro args s m h hn
    obtain ⟨meth, c, h1, h2, h3, h4, h5, h6, -, -⟩ := Cond.code_spec hn (atoms_spec (ws := Jvm.Cond.code x code maxLocals ret :: tables_1) h _ List.mem_cons_self)
    exact ⟨meth, c, h1, h2, h3, h4, h5, h6⟩
  · intro p e s m args below meth c s₁ B hml0 hP _
    obtain ⟨rfl, hx, hbd, hgv⟩ := hP
    obtain ⟨scr, harrAt, hlist, hof, hsmall⟩ := hx
    obtain ⟨hcb, hkn, -, -⟩ := State.arrayAt?_spec harrAt
    have hown : s.vm.findClass R_law = some m.cls := findClass_of_methodNamed B.named
    have hts0 : ∀ c ∈ (Jvm.Cond.code x code maxLocals ret :: tables_1), c.before #[Value.ref b] s = true := atoms_spec (ws := Jvm.Cond.code x code maxLocals ret :: tables_1) B.pre
    have hts : ∀ w ∈ lw_tbl, w.before #[Value.ref b] s = true := k2_hts_sels lw_privs (fun w hw => hts0 w (List.mem_cons_of_mem _ hw)) lw_privs_ok
    have hml : c.maxLocals = 4 := B.maxLocals_eq (hts0 _ List.mem_cons_self)
    have X₀ : Stand p l e room_1 s m #[Value.ref b] below meth c s₁ [] 0 0 := Stand.of_body B
    have hh0 : s₁.heap = s.heap := by rw [B.state]; rfl
    have hsz : scr.slots.size = xs.length := by rw [← Array.length_toList, hlist, List.length_map]
    have hval : ∀ j : Nat, j < xs.length → scr.slots[j]? = some (.int (xs.getD j 0)) := fun j hj => by
      rw [← Array.getElem?_toList, hlist]
      simp [hj]
    have hbl : b < s.heap.size := (Array.getElem?_eq_some_iff.mp hcb).1
    have hX : va_X b xs.length (fun j => xs.getD j 0) s s.heap := ⟨scr, hcb, hof, hkn, hsz, hval⟩
    have K : W p l e room_1 s m #[Value.ref b] below meth c s₁.heap [] 0 0 (lw_Z below #[Value.ref b] s) (entryFrame m ([Value.ref b] : List Value).toArray 4) := by
      rw [hh0]
      exact whole_start l hflags hbd ⟨B.exec, B.bytes, B.returns, hml, hown, hts, hX, hbl, B.notSynchronized, hgv⟩
    obtain ⟨t, a1, o, b1, b2, b3⟩ := K s₁ rfl X₀
    exact ⟨t, o, a1, b1, b2, b3⟩
theorem lw_pre_spec {args : Array Value} {s : State} (h : (Jvm.Cond.and given_1 narrow_1).before args s = true) (hr : rest_1_c.before args s = true) : ∃ (b : Addr) (xs : List Int32), lw_P b xs args s := by
  have hs := flat_of_before _ h
  have hq := flat_of_before _ hr
  have hc : (Cond.count 1).before args s = true := hs _ (by decide +kernel)
  have harr : (Cond.arrayOf (.arg 0) .int).before args s = true := hs _ (by decide +kernel)
  have hle : (Cond.le (.length (.arg 0)) (.int 2048)).before args s = true := hs _ (by decide +kernel)
  have hlen : (Cond.isInt (.length (.arg 0))).before args s = true := hq _ (by decide +kernel)
  have hall : (Cond.all (.arg 0) (.isInt (.elem (.arg 0) (.index 0)))).before args s = true := hq _ (by decide +kernel)
  obtain ⟨b, xs, hb, hx⟩ := State.ints_of_pre rfl harr hlen hall
  have hsm : xs.length < 2 ^ 31 := hx.choose_spec.2.2.2
  have hev : (Term.length (.arg 0)).eval args s none [] s = some (.int xs.length.toInt32) := hx.length_eval hb
  have hv := Cond.le_ints hev (show (Term.int 2048).eval args s none [] s = some (.int 2048) from rfl)
  have hd : xs.length.toInt32 ≤ 2048 := by
    simpa [Cond.before, Cond.holds, hv] using hle
  have hN : xs.length ≤ 2048 := (Int32.ofNat_le_ofNat hsm (by decide)).mp (show Int32.ofNat xs.length ≤ Int32.ofNat 2048 from hd)
  exact ⟨b, xs, Cond.one_arg hc (show args[0]? = some (.ref b) from hb), hx, hN, h⟩
theorem lw_comes (l : Launch) (hflags : l.flags = flags0) : Comes l x (Jvm.Cond.code x code maxLocals ret :: tables_1) room_1 (fun tb e args s => Calls_1 tb e args s ∧ rest_1 tb e args s ∧ Pre_1 tb e args s)
    (fun _ _ args s o t => lw_Q args s o t) := by
  intro p e ha hc hk s m args below hf hfit hheap happ hpre
  obtain ⟨b, xs, hP⟩ := lw_pre_spec hpre.2.2 hpre.2.1
  obtain ⟨k, o, h1, h2, h3, hQ⟩ := lw_walk l hflags b xs p e ha hc hk s m args below hf ((Spec.applies_iff_loose hf).mp happ).1 hP trivial
  exact ⟨k, o, h1, h2, h3, hQ⟩
theorem lw_frame {s t : State} {o : Outcome} {args : Array Value} (h : Framed s o t [] 600000 7302250) :
    Framed s o t (fieldLocs frame_1_writes args s ++ arrayLocs frame_1_arrays args s ++ staticLocs frame_1_statics s) 600000 7302250 := h
theorem lw_limb (L : Cond) (hL : ∀ (args : Array Value) (s t : State), L.after args s (.returned (some (.int 1))) t = true) :
    ArmFor flags0 classFile x code maxLocals ret World_1 tables_1 room_1 Calls_1 rest_1 Pre_1
      (fun tb e a s o t => postC L tb e a s o t ∧ Framed s o t (fieldLocs frame_1_writes a s ++ arrayLocs frame_1_arrays a s ++ staticLocs frame_1_statics s) 600000 7302250) := by
  intro l hflags _ _ p e ha hc hk s m args below hf hfit hheap happ hpre
  obtain ⟨k, o, h1, h2, h3, rfl, hF⟩ := lw_comes l hflags p e ha hc hk s m args below hf hfit hheap happ hpre
  exact ⟨k, _, h1, h2, h3, hL args s _, lw_frame hF⟩
theorem i_vc : Claimed_1_1 ∧ Claimed_1_2 := ⟨lw_limb limb_1_1 (fun args s t => by simp [limb_1_1, Cond.after, Cond.holds, Cond.value]), lw_limb limb_1_2 (fun args s t => Cond.after_iff.mpr (by
  first | (rw [show limb_1_2 = Cond.eq .result (.int 1) from rfl, Cond.eq_ints (x := 1) (y := 1) rfl rfl]; simp; done) | (simp [limb_1_2, Cond.value, Term.eval]; done)))⟩

