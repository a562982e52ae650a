
/-! walks: a board's small readers, sets of cells -/
/-- the code that a board has at a place; 0 beyond -/
def cAt (β : Sx) (x y : Int32) : Nat := if inI x (β.1 0) && inI y (β.1 1) then β.2.1 2 (5 * cx y + cx x) else 0
def tcv (fp : Nat → Nat) (st : Nat) (op : Nat) : Nat → Nat
  | 0 => op
  | k + 1 => if st >>> k &&& 1 = 0 then tcv fp st op k ||| 1 <<< fp k else tcv fp st op k

set_option maxHeartbeats 1000000 in
set_option maxRecDepth 100000 in
theorem c_X0_isWithin (l : Launch) (G : Gt) (b : Nat) (β : Sx) (x : Int32) (y : Int32) (hw : β.1 0 ≤ 5) (hh : β.1 1 ≤ 4) : Cr l G yX0_isWithin cX0_isWithin 3 ((some .boolean)) 0 [.ref b, .int x, .int y] (fun H => bk G b (bdL G b β) H) (some (.int (b2i (inI x (β.1 0) && inI y (β.1 1))))) := by
  refine cr_entry [(0, .ref b), (1, .int x), (2, .int y)] (by decide) (Nat.le_of_ble_eq_true rfl) rfl ?_
  intro zp ze zs zm za zb zt zc Q S hK hPre hE ls hl
  have hx := S.1
  have hb := S.2.1
  have hB := hPre
  refine lv_iload_n hx hb dX0_isWithin_0 rfl (lv_at hl 1 rfl) ?_
  refine lv_if_lt (tgt := 28) hx hb dX0_isWithin_1 (by decide) (fun c_1 => ?_) (fun c_1 => ?_)
  ·
    have hr : (inI x (β.1 0) && inI y (β.1 1)) = false := by rw [inI_lt c_1]; rfl
    replace hl := lv_sub (l' := [(0, .ref b), (1, .int x), (2, .int y)]) hl [0, 1, 2] rfl
    refine lv_iconst (v := nI 0) hx hb dX0_isWithin_28 (by decide) ?_
    refine w_top (v' := .int (b2i (inI x (β.1 0) && inI y (β.1 1)))) (bz_f (show (inI x (β.1 0) && inI y (β.1 1)) = false from hr)) ?_
    exact hE _ _ (kr_z dX0_isWithin_29)
  ·
    refine lv_iload_n hx hb dX0_isWithin_4 rfl (lv_at hl 1 rfl) ?_
    refine lv_aload_n hx hb dX0_isWithin_5 rfl (lv_at hl 0 rfl) ?_
    refine kg (C := RX0) (T := TX0) (N := 9) (ci := 0) (k := 0) (v := .int (nI (β.1 0))) S hK rfl inX0 (by decide) q_194 dX0_isWithin_6 hB rfl rfl ?_
    refine lv_icmp_ge (tgt := 28) hx hb dX0_isWithin_9 (by decide) (fun c_9 => ?_) (fun c_9 => ?_)
    ·
      have hr : (inI x (β.1 0) && inI y (β.1 1)) = false := by rw [inI_ge (by omega) c_9]; rfl
      replace hl := lv_sub (l' := [(0, .ref b), (1, .int x), (2, .int y)]) hl [0, 1, 2] rfl
      refine lv_iconst (v := nI 0) hx hb dX0_isWithin_28 (by decide) ?_
      refine w_top (v' := .int (b2i (inI x (β.1 0) && inI y (β.1 1)))) (bz_f (show (inI x (β.1 0) && inI y (β.1 1)) = false from hr)) ?_
      exact hE _ _ (kr_z dX0_isWithin_29)
    ·
      refine lv_iload_n hx hb dX0_isWithin_12 rfl (lv_at hl 2 rfl) ?_
      refine lv_if_lt (tgt := 28) hx hb dX0_isWithin_13 (by decide) (fun c_13 => ?_) (fun c_13 => ?_)
      ·
        have hr : (inI x (β.1 0) && inI y (β.1 1)) = false := by rw [inI_lt c_13, Bool.and_false]
        replace hl := lv_sub (l' := [(0, .ref b), (1, .int x), (2, .int y)]) hl [0, 1, 2] rfl
        refine lv_iconst (v := nI 0) hx hb dX0_isWithin_28 (by decide) ?_
        refine w_top (v' := .int (b2i (inI x (β.1 0) && inI y (β.1 1)))) (bz_f (show (inI x (β.1 0) && inI y (β.1 1)) = false from hr)) ?_
        exact hE _ _ (kr_z dX0_isWithin_29)
      ·
        refine lv_iload_n hx hb dX0_isWithin_16 rfl (lv_at hl 2 rfl) ?_
        refine lv_aload_n hx hb dX0_isWithin_17 rfl (lv_at hl 0 rfl) ?_
        refine kg (C := RX0) (T := TX0) (N := 9) (ci := 0) (k := 1) (v := .int (nI (β.1 1))) S hK rfl inX0 (by decide) q_196 dX0_isWithin_18 hB rfl rfl ?_
        refine lv_icmp_ge (tgt := 28) hx hb dX0_isWithin_21 (by decide) (fun c_21 => ?_) (fun c_21 => ?_)
        ·
          have hr : (inI x (β.1 0) && inI y (β.1 1)) = false := by rw [inI_ge (by omega) c_21, Bool.and_false]
          replace hl := lv_sub (l' := [(0, .ref b), (1, .int x), (2, .int y)]) hl [0, 1, 2] rfl
          refine lv_iconst (v := nI 0) hx hb dX0_isWithin_28 (by decide) ?_
          refine w_top (v' := .int (b2i (inI x (β.1 0) && inI y (β.1 1)))) (bz_f (show (inI x (β.1 0) && inI y (β.1 1)) = false from hr)) ?_
          exact hE _ _ (kr_z dX0_isWithin_29)
        ·
          have hr : (inI x (β.1 0) && inI y (β.1 1)) = true := by rw [inI_of (by omega) c_1 c_9, inI_of (by omega) c_13 c_21]; rfl
          refine lv_iconst (v := nI 1) hx hb dX0_isWithin_24 (by decide) ?_
          refine lv_goto (tgt := 29) hx hb dX0_isWithin_25 (by decide) ?_
          refine w_top (v' := .int (b2i (inI x (β.1 0) && inI y (β.1 1)))) (bz_t (show (inI x (β.1 0) && inI y (β.1 1)) = true from hr)) ?_
          exact hE _ _ (kr_z dX0_isWithin_29)

set_option maxHeartbeats 1000000 in
set_option maxRecDepth 100000 in
theorem c_X0_codeAt (l : Launch) (G : Gt) (b : Nat) (β : Sx) (x : Int32) (y : Int32) (hw : β.1 0 ≤ 5) (hh : β.1 1 ≤ 4) : Cr l G yX0_codeAt cX0_codeAt 3 ((some .int)) 1 [.ref b, .int x, .int y] (fun H => bk G b (bdL G b β) H) (some (.int (nI (cAt β x y)))) := by
  refine cr_entry [(0, .ref b), (1, .int x), (2, .int y)] (by decide) (Nat.le_of_ble_eq_true rfl) rfl ?_
  intro zp ze zs zm za zb zt zc Q S hK hPre hE ls hl
  have hx := S.1
  have hb := S.2.1
  have hB := hPre
  refine lv_aload_n hx hb dX0_codeAt_0 rfl (lv_at hl 0 rfl) ?_
  refine lv_iload_n hx hb dX0_codeAt_1 rfl (lv_at hl 1 rfl) ?_
  refine lv_iload_n hx hb dX0_codeAt_2 rfl (lv_at hl 2 rfl) ?_
  refine crV (rest := []) S hK (c_X0_isWithin l G b β x y (by first | assumption | omega | decide) (by first | assumption | omega | decide)) cw_X0_26 rfl ⟨Nat.le_of_ble_eq_true rfl, Nat.le_of_ble_eq_true rfl⟩ ⟨Nat.le_of_ble_eq_true rfl, Nat.le_of_ble_eq_true rfl⟩ (bk.recv hK hB rfl rfl) hl.1 rfl (Nat.le_of_ble_eq_true rfl) dX0_codeAt_3 hB ?_
  refine z_if_eq (tgt := 22) hx hb dX0_codeAt_6 (by decide) (fun c_6 => ?_) (fun c_6 => ?_)
  ·
    have hr : cAt β x y = 0 := by unfold cAt; rw [c_6]; rfl
    refine lv_iconst (v := nI 0) hx hb dX0_codeAt_22 (by decide) ?_
    refine w_top (v' := .int (nI (cAt β x y))) (congrArg (fun z => Value.int (nI z)) (show 0 = (cAt β x y) from by omega)) ?_
    exact hE _ _ (kr_i dX0_codeAt_23)
  ·
    have hr : cAt β x y = β.2.1 2 (5 * cx y + cx x) := by unfold cAt; rw [c_6]; rfl
    obtain ⟨hxi, hyi⟩ := (Bool.and_eq_true _ _).mp c_6
    obtain ⟨i, hi, rfl⟩ := inI_x hxi
    obtain ⟨j, hj, rfl⟩ := inI_x hyi
    rw [cx_n (by omega), cx_n (by omega)] at hr
    refine lv_aload_n hx hb dX0_codeAt_9 rfl (lv_at hl 0 rfl) ?_
    refine kg (C := RX0) (T := TX0) (N := 9) (ci := 0) (k := 2) (v := .ref (b + 1)) S hK rfl inX0 (by decide) q_198 dX0_codeAt_10 hB rfl rfl ?_
    refine lv_iconst (v := nI 5) hx hb dX0_codeAt_13 (by decide) ?_
    refine lv_iload_n hx hb dX0_codeAt_14 rfl (lv_at hl 2 rfl) ?_
    refine n_imul hx hb dX0_codeAt_15 ?_
    refine lv_iload_n hx hb dX0_codeAt_16 rfl (lv_at hl 1 rfl) ?_
    refine n_iadd hx hb dX0_codeAt_17 ?_
    refine kil (f := β.2.1 2) S hK dX0_codeAt_18 1 hB rfl (by decide) rfl (by omega) ?_
    refine lv_goto (tgt := 23) hx hb dX0_codeAt_19 (by decide) ?_
    refine w_top (v' := .int (nI (cAt β (nI i) (nI j)))) (congrArg (fun z => Value.int (nI z)) (show (β.2.1 2 ((5 * j) + i)) = (cAt β (nI i) (nI j)) from by omega)) ?_
    exact hE _ _ (kr_i dX0_codeAt_23)

theorem z0 {x : Int32} (h : ¬ x < 0) : ∃ j : Nat, j < 2 ^ 31 ∧ x = nI j := nI_of h
set_option maxHeartbeats 1000000 in
set_option maxRecDepth 100000 in
theorem c_X0_bitOf (l : Launch) (G : Gt) (x : Nat) (y : Nat) (hx5 : x < 6) (hy4 : y < 5) : Cr l G yX0_bitOf cX0_bitOf 2 ((some .int)) 0 [.int (nI x), .int (nI y)] (fun H => True) (some (.int (nI (1 <<< (5 * y + x))))) := by
  refine cr_entry [(0, .int (nI x)), (1, .int (nI y))] (by decide) (Nat.le_of_ble_eq_true rfl) rfl ?_
  intro zp ze zs zm za zb zt zc Q S hK hPre hE ls hl
  have hx := S.1
  have hb := S.2.1
  refine lv_iconst (v := nI 1) hx hb dX0_bitOf_0 (by decide) ?_
  refine lv_iconst (v := nI 5) hx hb dX0_bitOf_1 (by decide) ?_
  refine lv_iload_n hx hb dX0_bitOf_2 rfl (lv_at hl 1 rfl) ?_
  refine n_imul hx hb dX0_bitOf_3 ?_
  refine lv_iload_n hx hb dX0_bitOf_4 rfl (lv_at hl 0 rfl) ?_
  refine n_iadd hx hb dX0_bitOf_5 ?_
  refine n_ishl hx hb dX0_bitOf_6 (by omega) ?_
  refine w_top (v' := .int (nI (1 <<< (5 * y + x)))) (congrArg (fun z => Value.int (nI z)) (show (1 <<< ((5 * y) + x)) = (1 <<< (5 * y + x)) from rfl)) ?_
  exact hE _ _ (kr_i dX0_bitOf_7)

set_option maxHeartbeats 1000000 in
set_option maxRecDepth 100000 in
theorem c_X0_states (l : Launch) (G : Gt) (b : Nat) (β : Sx) (hf : β.1 4 ≤ 5) : Cr l G yX0_states cX0_states 1 ((some .int)) 0 [.ref b] (fun H => bk G b (bdL G b β) H) (some (.int (nI (1 <<< β.1 4)))) := by
  refine cr_entry [(0, .ref b)] (by decide) (Nat.le_of_ble_eq_true rfl) rfl ?_
  intro zp ze zs zm za zb zt zc Q S hK hPre hE ls hl
  have hx := S.1
  have hb := S.2.1
  have hB := hPre
  refine lv_iconst (v := nI 1) hx hb dX0_states_0 (by decide) ?_
  refine lv_aload_n hx hb dX0_states_1 rfl (lv_at hl 0 rfl) ?_
  refine kg (C := RX0) (T := TX0) (N := 9) (ci := 0) (k := 4) (v := .int (nI (β.1 4))) S hK rfl inX0 (by decide) q_201 dX0_states_2 hB rfl rfl ?_
  refine n_ishl hx hb dX0_states_5 (by omega) ?_
  refine w_top (v' := .int (nI (1 <<< β.1 4))) (congrArg (fun z => Value.int (nI z)) (show (1 <<< (β.1 4)) = (1 <<< β.1 4) from rfl)) ?_
  exact hE _ _ (kr_i dX0_states_6)

set_option maxHeartbeats 1000000 in
set_option maxRecDepth 100000 in
theorem c_X0_toCover (l : Launch) (G : Gt) (b : Nat) (β : Sx) (op : Nat) (st : Nat) (hf : β.1 4 ≤ 5) (hst : st < 2 ^ 31) (hp : ∀ k, k < β.1 4 → β.2.1 5 k < 20) : Cr l G yX0_toCover cX0_toCover 5 ((some .int)) 0 [.ref b, .int (nI op), .int (nI st)] (fun H => bk G b (bdL G b β) H) (some (.int (nI (tcv (β.2.1 5) st op (β.1 4))))) := by
  refine cr_entry [(0, .ref b), (1, .int (nI op)), (2, .int (nI st))] (by decide) (Nat.le_of_ble_eq_true rfl) rfl ?_
  intro zp ze zs zm za zb zt zc Q S hK hPre hE ls hl
  have hx := S.1
  have hb := S.2.1
  have hB := hPre
  refine lv_iload_n hx hb dX0_toCover_0 rfl (lv_at hl 1 rfl) ?_
  refine lv_istore_n (lv' := [(3, .int (nI op)), (0, .ref b), (1, .int (nI op)), (2, .int (nI st))]) hx hb dX0_toCover_1 rfl hl (by decide) rfl (fun ls hl => ?_)
  refine lv_iconst (v := nI 0) hx hb dX0_toCover_2 (by decide) ?_
  refine lv_istore (lv' := [(4, .int (nI 0)), (3, .int (nI op)), (0, .ref b), (1, .int (nI op)), (2, .int (nI st))]) hx hb dX0_toCover_3 hl (by decide) rfl (fun ls hl => ?_)
  have L5 : ∀ (fu : Nat), ∀ (i : Nat), (i ≤ β.1 4) → β.1 4 - i < fu → ∀ ls : Array Slot, lv_has ls 5 [(0, .ref b), (2, .int (nI st)), (3, .int (nI (tcv (β.2.1 5) st op i))), (4, .int (nI i))] → W zp l ze (rL 0 0 0) zs zm za zb zt zc zs.heap [] 0 0 Q (F0 zm 5 ls []) := by
    intro fu
    induction fu with
    | zero =>
      intro i hi hmu ls hl
      exact absurd hmu (Nat.not_lt_zero _)
    | succ fu ih5 =>
      intro i hi hmu ls hl
      refine lv_iload hx hb dX0_toCover_5 (lv_at hl 3 rfl) ?_
      refine lv_aload_n hx hb dX0_toCover_7 rfl (lv_at hl 0 rfl) ?_
      refine kg (C := RX0) (T := TX0) (N := 9) (ci := 0) (k := 4) (v := .int (nI (β.1 4))) S hK rfl inX0 (by decide) q_201 dX0_toCover_8 hB rfl rfl ?_
      refine n_icmp_ge (tgt := 41) hx hb dX0_toCover_11 (by decide) (by omega) (by omega) (fun c_11 => ?_) (fun c_11 => ?_)
      ·
        refine lv_iload_n hx hb dX0_toCover_41 rfl (lv_at hl 2 rfl) ?_
        refine w_top (v' := .int (nI (tcv (β.2.1 5) st op (β.1 4)))) (congrArg (fun z => Value.int (nI z)) (show (tcv (β.2.1 5) st op i) = (tcv (β.2.1 5) st op (β.1 4)) from by rw [show i = β.1 4 from by omega])) ?_
        exact hE _ _ (kr_i dX0_toCover_42)
      ·
        have hil : i < β.1 4 := by omega
        have hpi := hp i hil
        refine lv_iload_n hx hb dX0_toCover_14 rfl (lv_at hl 1 rfl) ?_
        refine lv_iload hx hb dX0_toCover_15 (lv_at hl 3 rfl) ?_
        refine n_ishr hx hb dX0_toCover_17 (by omega) (by omega) ?_
        refine lv_iconst (v := nI 1) hx hb dX0_toCover_18 (by decide) ?_
        refine n_iand hx hb dX0_toCover_19 ?_
        refine n_if_ne (tgt := 35) hx hb dX0_toCover_20 (by decide) (Nat.lt_of_le_of_lt Nat.and_le_right (by decide)) (fun c_20 => ?_) (fun c_20 => ?_)
        ·
          have e3 : tcv (β.2.1 5) st op (i + 1) = tcv (β.2.1 5) st op i := by show (if _ then _ else _) = _; rw [if_neg c_20]
          refine lv_iinc (v := nI (i + 1)) (lv' := [(4, .int (nI (i + 1))), (0, .ref b), (2, .int (nI st)), (3, .int (nI (tcv (β.2.1 5) st op i)))]) hx hb dX0_toCover_35 hl (k := 3) rfl (inc1 _) (by decide) rfl (fun ls hl => ?_)
          refine lv_goto (tgt := 5) hx hb dX0_toCover_38 (by decide) ?_
          replace hl := lv_eq 3 hl rfl (v2 := .int (nI (tcv (β.2.1 5) st op (i + 1)))) (congrArg (fun z => Value.int (nI z)) (show (tcv (β.2.1 5) st op i) = (tcv (β.2.1 5) st op (i + 1)) from e3.symm))
          exact ih5 (i + 1) (by first | assumption | omega) (by omega) ls (lv_sub hl [1, 2, 3, 0] rfl)
        ·
          have e3 : tcv (β.2.1 5) st op (i + 1) = tcv (β.2.1 5) st op i ||| 1 <<< β.2.1 5 i := by show (if _ then _ else _) = _; rw [if_pos c_20]
          refine lv_iload_n hx hb dX0_toCover_23 rfl (lv_at hl 2 rfl) ?_
          refine lv_iconst (v := nI 1) hx hb dX0_toCover_24 (by decide) ?_
          refine lv_aload_n hx hb dX0_toCover_25 rfl (lv_at hl 0 rfl) ?_
          refine kg (C := RX0) (T := TX0) (N := 9) (ci := 0) (k := 5) (v := .ref (b + 2)) S hK rfl inX0 (by decide) q_205 dX0_toCover_26 hB rfl rfl ?_
          refine lv_iload hx hb dX0_toCover_29 (lv_at hl 3 rfl) ?_
          refine kil (f := β.2.1 5) S hK dX0_toCover_31 2 hB rfl (by decide) rfl (by omega) ?_
          refine n_ishl hx hb dX0_toCover_32 (by omega) ?_
          refine n_ior hx hb dX0_toCover_33 ?_
          refine lv_istore_n (lv' := [(3, .int (nI ((tcv (β.2.1 5) st op i) ||| (1 <<< (β.2.1 5 i))))), (0, .ref b), (2, .int (nI st)), (4, .int (nI i))]) hx hb dX0_toCover_34 rfl hl (by decide) rfl (fun ls hl => ?_)
          refine lv_iinc (v := nI (i + 1)) (lv' := [(4, .int (nI (i + 1))), (3, .int (nI ((tcv (β.2.1 5) st op i) ||| (1 <<< (β.2.1 5 i))))), (0, .ref b), (2, .int (nI st))]) hx hb dX0_toCover_35 hl (k := 3) rfl (inc1 _) (by decide) rfl (fun ls hl => ?_)
          refine lv_goto (tgt := 5) hx hb dX0_toCover_38 (by decide) ?_
          replace hl := lv_eq 1 hl rfl (v2 := .int (nI (tcv (β.2.1 5) st op (i + 1)))) (congrArg (fun z => Value.int (nI z)) (show ((tcv (β.2.1 5) st op i) ||| (1 <<< (β.2.1 5 i))) = (tcv (β.2.1 5) st op (i + 1)) from e3.symm))
          exact ih5 (i + 1) (by first | assumption | omega) (by omega) ls (lv_sub hl [2, 3, 1, 0] rfl)
  replace hl := lv_eq 1 hl rfl (v2 := .int (nI (tcv (β.2.1 5) st op 0))) (congrArg (fun z => Value.int (nI z)) (show op = (tcv (β.2.1 5) st op 0) from by first | rfl | omega))
  exact L5 ((β.1 4 - 0) + 1) 0 (Nat.zero_le _) (Nat.lt_succ_self _) ls (lv_sub hl [2, 4, 1, 0] rfl)

set_option maxHeartbeats 1000000 in
set_option maxRecDepth 100000 in
theorem c_X5_goesRight (l : Launch) (G : Gt) (r : Nat) (c0 : Nat) (hr31 : r < 2 ^ 31) : Cr l G yX5_goesRight cX5_goesRight 2 ((some .boolean)) 0 [.int (nI r), .int (nI c0)] (fun H => True) (some (.int (b2i (gR r c0)))) := by
  refine cr_entry [(0, .int (nI r)), (1, .int (nI c0))] (by decide) (Nat.le_of_ble_eq_true rfl) rfl ?_
  intro zp ze zs zm za zb zt zc Q S hK hPre hE ls hl
  have hx := S.1
  have hb := S.2.1
  refine lv_iload_n hx hb dX5_goesRight_0 rfl (lv_at hl 1 rfl) ?_
  refine lv_ldc (v := nI 541200) hx hb S.2.2.2.1 (S.2.2.2.2 _ q_276) dX5_goesRight_1 ?_
  refine n_iand hx hb dX5_goesRight_3 ?_
  refine n_if_ne (tgt := 19) hx hb dX5_goesRight_4 (by decide) (Nat.lt_of_le_of_lt Nat.and_le_right (by decide)) (fun c_4 => ?_) (fun c_4 => ?_)
  ·
    have hr : gR r c0 = false := by unfold gR; rw [decide_eq_false c_4]; rfl
    refine lv_iconst (v := nI 0) hx hb dX5_goesRight_19 (by decide) ?_
    refine w_top (v' := .int (b2i (gR r c0))) (bz_f (show (gR r c0) = false from hr)) ?_
    exact hE _ _ (kr_z dX5_goesRight_20)
  ·
    refine lv_iload_n hx hb dX5_goesRight_7 rfl (lv_at hl 0 rfl) ?_
    refine lv_iload_n hx hb dX5_goesRight_8 rfl (lv_at hl 1 rfl) ?_
    refine lv_iconst (v := nI 1) hx hb dX5_goesRight_9 (by decide) ?_
    refine n_ishl hx hb dX5_goesRight_10 (by decide) ?_
    refine n_iand hx hb dX5_goesRight_11 ?_
    refine n_if_eq (tgt := 19) hx hb dX5_goesRight_12 (by decide) (by first | omega | exact Nat.lt_of_le_of_lt Nat.and_le_left (by omega)) (fun c_12 => ?_) (fun c_12 => ?_)
    ·
      have hr : gR r c0 = false := by unfold gR; rw [decide_eq_true c_12]; simp
      refine lv_iconst (v := nI 0) hx hb dX5_goesRight_19 (by decide) ?_
      refine w_top (v' := .int (b2i (gR r c0))) (bz_f (show (gR r c0) = false from hr)) ?_
      exact hE _ _ (kr_z dX5_goesRight_20)
    ·
      have hr : gR r c0 = true := by unfold gR; rw [decide_eq_true c_4, decide_eq_false c_12]; rfl
      refine lv_iconst (v := nI 1) hx hb dX5_goesRight_15 (by decide) ?_
      refine lv_goto (tgt := 20) hx hb dX5_goesRight_16 (by decide) ?_
      refine w_top (v' := .int (b2i (gR r c0))) (bz_t (show (gR r c0) = true from hr)) ?_
      exact hE _ _ (kr_z dX5_goesRight_20)
