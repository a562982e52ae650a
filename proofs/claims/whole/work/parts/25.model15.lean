
/-! walks: the reference's meets, leak, meetings -/
abbrev otP (μ : Sx) (k x y : Nat) : Nat → Bool := fun o => !decide (o = k) && !decide (onM μ o x y = 0)
def othI (μ : Sx) (k : Nat) (x y : Int32) : Bool := inI x 12 && (inI y 12 && (fnd (otP μ k (cx x) (cx y)) (μ.1 19) 0).isSome)
def opS (μ : Sx) (k x y : Nat) : Bool := othI μ k (nI x - nI 1) (nI y) || (othI μ k (nI (x + 1)) (nI y) || (othI μ k (nI x) (nI y - nI 1) || othI μ k (nI x) (nI (y + 1))))
abbrev lfB (μ : Sx) (k : Nat) : Nat → Bool := fun f => !decide (metM μ k f 1 < 0)
abbrev lxB (μ : Sx) (k : Nat) : Nat → Bool := fun i => decide (onM μ k (i / 12) (i % 12) = 1) && opS μ k (i / 12) (i % 12)
abbrev lkB (μ : Sx) : Nat → Bool := fun k => (fnd (lfB μ k) (fcL μ k) 0).isSome || (fnd (lxB μ k) 144 0).isSome
abbrev leak_M (μ : Sx) : Int32 := oI (fnd (lkB μ) (μ.1 19) 0)
abbrev mtC (μ : Sx) (k f : Nat) : Bool := !decide (metM μ k f 0 / nI 10 ≤ nI k)

set_option maxHeartbeats 1000000 in
set_option maxRecDepth 100000 in
theorem c_X7_meets (l : Launch) (G : Gt) (om : Nat) (μ : Sx) (k : Int32) (f : Int32) (h0 : MI0 μ) (hl0 : MIl μ) (hg0 : MIg μ) : Ct l G yX7_meets cX7_meets 3 ((some .int)) 4 0 0 [.ref om, .int k, .int f] (fun H => bk G om (mL G om μ) H) (some (.int ((meets_M μ k f).1))) (fun H => bk G om (mL G om ((meets_M μ k f).2)) H) (fun q => om ≤ q ∧ q < om + 20) := by
  refine ct_entry [(0, .ref om), (1, .int k), (2, .int f)] (by decide) (Nat.le_of_ble_eq_true rfl) rfl ?_
  intro zp ze zs zm za zb zt zc Q S hK hPre hin hE ls hl
  have hx := S.1
  have hb := S.2.1
  have hM := hPre
  have hS : va_S (fun q => om ≤ q ∧ q < om + 20) zs.heap zs.heap [] := va_S.rf
  have hp24 := h0.1
  have hl10 := hl0.1
  refine lv_iload_n hx hb dX7_meets_0 rfl (lv_at hl 1 rfl) ?_
  refine lv_aload_n hx hb dX7_meets_1 rfl (lv_at hl 0 rfl) ?_
  refine kg (C := RX7) (T := TX7) (N := 32) (ci := 5) (k := 19) (v := .int (nI (μ.1 19))) S hK rfl inX7 (by decide) q_749 dX7_meets_2 hM rfl rfl ?_
  refine crS (rest := []) S hK (c_X7_isIn l G k (μ.1 19) (by first | assumption | omega | decide)) cw_X7_80 rfl ⟨Nat.le_of_ble_eq_true rfl, Nat.le_of_ble_eq_true rfl⟩ ⟨Nat.le_of_ble_eq_true rfl, Nat.le_of_ble_eq_true rfl⟩ hl.1 rfl (Nat.le_of_ble_eq_true rfl) dX7_meets_5 trivial ?_
  refine z_if_eq (tgt := 39) hx hb dX7_meets_8 (by decide) (fun c_8 => ?_) (fun c_8 => ?_)
  ·
    refine lv_aload_n hx hb dX7_meets_39 rfl (lv_at hl 0 rfl) ?_
    refine lv_iconst (v := (-1)) hx hb dX7_meets_40 (by decide) ?_
    refine ctV (rest := []) S hK (c_X7_refuse l G om μ (-1) 1 (by first | assumption | omega | decide) (by first | assumption | omega | decide)) cw_X7_72 rfl ⟨Nat.le_of_ble_eq_true rfl, Nat.le_of_ble_eq_true rfl⟩ ⟨Nat.le_of_ble_eq_true rfl, Nat.le_of_ble_eq_true rfl⟩ (bk.recv hK hM rfl rfl) hl.1 rfl (Nat.le_of_ble_eq_true rfl) dX7_meets_41 hM hS (fun _ h => h) (fun H locs hPost hz hk hS => ?_)
    have hM := hPost
    have hr : meets_M μ k f = ((-1), uA μ 0 1 (μ.2.1 0 1 + 1)) := by unfold meets_M; first | rw [c_8, if_pos rfl, hck, c_26, if_pos rfl, hcf] | (rw [c_8, if_pos rfl, hck, c_26]; rfl) | (rw [c_8]; rfl)
    refine w_top (v' := .int ((meets_M μ k f).1)) (congrArg (fun z => Value.int z) (congrArg Prod.fst hr).symm) ?_
    replace hM := bk_eq hM (show mL G om (uA μ 0 1 (μ.2.1 0 1 + 1)) = mL G om ((meets_M μ k f).2) from by rw [hr])
    exact hE _ _ _ _ _ _ (kr_i dX7_meets_44) hS (by decide) (by decide) hM
  ·
    obtain ⟨vk, hvk, rfl⟩ := inI_x c_8
    have hck := cx_n (j := vk) (by omega)
    have hkp := (hl0.2 vk hvk).1
    have hkf := (h0.2 _ hkp).2.2.2.2.1
    refine lv_iload_n hx hb dX7_meets_11 rfl (lv_at hl 2 rfl) ?_
    refine lv_aload_n hx hb dX7_meets_12 rfl (lv_at hl 0 rfl) ?_
    refine kg (C := RX7) (T := TX7) (N := 32) (ci := 5) (k := 3) (v := .ref (om + 4)) S hK rfl inX7 (by decide) q_733 dX7_meets_13 hM rfl rfl ?_
    refine lv_aload_n hx hb dX7_meets_16 rfl (lv_at hl 0 rfl) ?_
    refine kg (C := RX7) (T := TX7) (N := 32) (ci := 5) (k := 12) (v := .ref (om + 13)) S hK rfl inX7 (by decide) q_742 dX7_meets_17 hM rfl rfl ?_
    refine lv_iload_n hx hb dX7_meets_20 rfl (lv_at hl 1 rfl) ?_
    refine kil (f := μ.2.1 12) S hK dX7_meets_21 13 hM rfl (by decide) rfl (by omega) ?_
    refine kil (f := μ.2.1 3) S hK dX7_meets_22 4 hM rfl (by decide) rfl (by omega) ?_
    refine crS (rest := []) S hK (c_X7_isIn l G f (μ.2.1 3 (μ.2.1 12 vk)) (by first | assumption | omega | decide)) cw_X7_80 rfl ⟨Nat.le_of_ble_eq_true rfl, Nat.le_of_ble_eq_true rfl⟩ ⟨Nat.le_of_ble_eq_true rfl, Nat.le_of_ble_eq_true rfl⟩ hl.1 rfl (Nat.le_of_ble_eq_true rfl) dX7_meets_23 trivial ?_
    refine z_if_eq (tgt := 39) hx hb dX7_meets_26 (by decide) (fun c_26 => ?_) (fun c_26 => ?_)
    ·
      refine lv_aload_n hx hb dX7_meets_39 rfl (lv_at hl 0 rfl) ?_
      refine lv_iconst (v := (-1)) hx hb dX7_meets_40 (by decide) ?_
      refine ctV (rest := []) S hK (c_X7_refuse l G om μ (-1) 1 (by first | assumption | omega | decide) (by first | assumption | omega | decide)) cw_X7_72 rfl ⟨Nat.le_of_ble_eq_true rfl, Nat.le_of_ble_eq_true rfl⟩ ⟨Nat.le_of_ble_eq_true rfl, Nat.le_of_ble_eq_true rfl⟩ (bk.recv hK hM rfl rfl) hl.1 rfl (Nat.le_of_ble_eq_true rfl) dX7_meets_41 hM hS (fun _ h => h) (fun H locs hPost hz hk hS => ?_)
      have hM := hPost
      have hr : meets_M μ (nI vk) f = ((-1), uA μ 0 1 (μ.2.1 0 1 + 1)) := by unfold meets_M; first | rw [c_8, if_pos rfl, hck, c_26, if_pos rfl, hcf] | (rw [c_8, if_pos rfl, hck, c_26]; rfl) | (rw [c_8]; rfl)
      refine w_top (v' := .int ((meets_M μ (nI vk) f).1)) (congrArg (fun z => Value.int z) (congrArg Prod.fst hr).symm) ?_
      replace hM := bk_eq hM (show mL G om (uA μ 0 1 (μ.2.1 0 1 + 1)) = mL G om ((meets_M μ (nI vk) f).2) from by rw [hr])
      exact hE _ _ _ _ _ _ (kr_i dX7_meets_44) hS (by decide) (by decide) hM
    ·
      obtain ⟨vf, hvf, rfl⟩ := inI_x c_26
      have hcf := cx_n (j := vf) (by omega)
      refine lv_aload_n hx hb dX7_meets_29 rfl (lv_at hl 0 rfl) ?_
      refine lv_iload_n hx hb dX7_meets_30 rfl (lv_at hl 1 rfl) ?_
      refine lv_iload_n hx hb dX7_meets_31 rfl (lv_at hl 2 rfl) ?_
      refine lv_iconst (v := nI 0) hx hb dX7_meets_32 (by decide) ?_
      refine crV (rest := []) S hK (c_X7_met l G om μ vk vf 0 (by first | assumption | omega | decide) (by first | assumption | omega | decide) (by first | assumption | omega | decide) (by first | assumption | omega | decide) (by first | assumption | omega | decide) (by first | assumption | omega | decide)) cw_X7_277 rfl ⟨Nat.le_of_ble_eq_true rfl, Nat.le_of_ble_eq_true rfl⟩ ⟨Nat.le_of_ble_eq_true rfl, Nat.le_of_ble_eq_true rfl⟩ (bk.recv hK hM rfl rfl) hl.1 rfl (Nat.le_of_ble_eq_true rfl) dX7_meets_33 hM ?_
      refine lv_goto (tgt := 44) hx hb dX7_meets_36 (by decide) ?_
      have hr : meets_M μ (nI vk) (nI vf) = ((metM μ vk vf 0), μ) := by unfold meets_M; first | rw [c_8, if_pos rfl, hck, c_26, if_pos rfl, hcf] | (rw [c_8, if_pos rfl, hck, c_26]; rfl) | (rw [c_8]; rfl)
      refine w_top (v' := .int ((meets_M μ (nI vk) (nI vf)).1)) (congrArg (fun z => Value.int z) (congrArg Prod.fst hr).symm) ?_
      replace hM := bk_eq hM (show mL G om μ = mL G om ((meets_M μ (nI vk) (nI vf)).2) from by rw [hr])
      exact hE _ _ _ _ _ _ (kr_i dX7_meets_44) hS (by decide) (by decide) hM

set_option maxHeartbeats 1000000 in
set_option maxRecDepth 100000 in
theorem c_X7_isOther (l : Launch) (G : Gt) (om : Nat) (μ : Sx) (k : Nat) (x : Int32) (y : Int32) (h0 : MI0 μ) (hl0 : MIl μ) (hk0 : k < μ.1 19) : Cr l G yX7_isOther cX7_isOther 5 ((some .boolean)) 2 [.ref om, .int (nI k), .int x, .int y] (fun H => bk G om (mL G om μ) H) (some (.int (b2i (othI μ k x y)))) := by
  refine cr_entry [(0, .ref om), (1, .int (nI k)), (2, .int x), (3, .int y)] (by decide) (Nat.le_of_ble_eq_true rfl) rfl ?_
  intro zp ze zs zm za zb zt zc Q S hK hPre hE ls hl
  have hx := S.1
  have hb := S.2.1
  have hM := hPre
  have hp24 := h0.1
  have hl10 := hl0.1
  refine lv_iload_n hx hb dX7_isOther_0 rfl (lv_at hl 2 rfl) ?_
  refine lv_bipush (v := nI 12) hx hb dX7_isOther_1 (by decide) ?_
  refine crS (rest := []) S hK (c_X7_isIn l G x 12 (by first | assumption | omega | decide)) cw_X7_80 rfl ⟨Nat.le_of_ble_eq_true rfl, Nat.le_of_ble_eq_true rfl⟩ ⟨Nat.le_of_ble_eq_true rfl, Nat.le_of_ble_eq_true rfl⟩ hl.1 rfl (Nat.le_of_ble_eq_true rfl) dX7_isOther_3 trivial ?_
  refine z_if_eq (tgt := 18) hx hb dX7_isOther_6 (by decide) (fun c_6 => ?_) (fun c_6 => ?_)
  ·
    have hr : othI μ k x y = false := by unfold othI; rw [c_6]; rfl
    refine lv_iconst (v := nI 0) hx hb dX7_isOther_18 (by decide) ?_
    refine w_top (v' := .int (b2i (othI μ k x y))) (bz_f (show (othI μ k x y) = false from hr)) ?_
    exact hE _ _ (kr_z dX7_isOther_19)
  ·
    obtain ⟨vx, hvx, rfl⟩ := inI_x c_6
    have hcx := cx_n (j := vx) (by omega)
    refine lv_iload_n hx hb dX7_isOther_9 rfl (lv_at hl 3 rfl) ?_
    refine lv_bipush (v := nI 12) hx hb dX7_isOther_10 (by decide) ?_
    refine crS (rest := []) S hK (c_X7_isIn l G y 12 (by first | assumption | omega | decide)) cw_X7_80 rfl ⟨Nat.le_of_ble_eq_true rfl, Nat.le_of_ble_eq_true rfl⟩ ⟨Nat.le_of_ble_eq_true rfl, Nat.le_of_ble_eq_true rfl⟩ hl.1 rfl (Nat.le_of_ble_eq_true rfl) dX7_isOther_12 trivial ?_
    refine z_if_ne (tgt := 20) hx hb dX7_isOther_15 (by decide) (fun c_15 => ?_) (fun c_15 => ?_)
    ·
      obtain ⟨vy, hvy, rfl⟩ := inI_x c_15
      have hcy := cx_n (j := vy) (by omega)
      have hoe : othI μ k (nI vx) (nI vy) = (fnd (otP μ k vx vy) (μ.1 19) 0).isSome := by unfold othI; rw [c_6, c_15, hcx, hcy]; rfl
      refine lv_iconst (v := nI 0) hx hb dX7_isOther_20 (by decide) ?_
      refine lv_istore (lv' := [(4, .int (nI 0)), (0, .ref om), (1, .int (nI k)), (2, .int (nI vx)), (3, .int (nI vy))]) hx hb dX7_isOther_21 hl (by decide) rfl (fun ls hl => ?_)
      have L23 : ∀ (fu : Nat), ∀ (vo : Nat), (vo ≤ μ.1 19) → (fnd (otP μ k vx vy) (μ.1 19) 0 = fnd (otP μ k vx vy) (μ.1 19 - vo) vo) → μ.1 19 - vo < fu → ∀ ls : Array Slot, lv_has ls 5 [(0, .ref om), (1, .int (nI k)), (2, .int (nI vx)), (3, .int (nI vy)), (4, .int (nI vo))] → W zp l ze (rL 2 0 0) zs zm za zb zt zc zs.heap [] 0 0 Q (F0 zm 23 ls []) := by
        intro fu
        induction fu with
        | zero =>
          intro vo hvo hfo hmu ls hl
          exact absurd hmu (Nat.not_lt_zero _)
        | succ fu ih23 =>
          intro vo hvo hfo hmu ls hl
          refine lv_iload hx hb dX7_isOther_23 (lv_at hl 4 rfl) ?_
          refine lv_aload_n hx hb dX7_isOther_25 rfl (lv_at hl 0 rfl) ?_
          refine kg (C := RX7) (T := TX7) (N := 32) (ci := 5) (k := 19) (v := .int (nI (μ.1 19))) S hK rfl inX7 (by decide) q_749 dX7_isOther_26 hM rfl rfl ?_
          refine n_icmp_ge (tgt := 57) hx hb dX7_isOther_29 (by decide) (by omega) (by omega) (fun c_29 => ?_) (fun c_29 => ?_)
          ·
            have hr : othI μ k (nI vx) (nI vy) = false := by rw [hoe, hfo, show μ.1 19 - vo = 0 from by omega]; rfl
            refine lv_iconst (v := nI 0) hx hb dX7_isOther_57 (by decide) ?_
            refine w_top (v' := .int (b2i (othI μ k (nI vx) (nI vy)))) (bz_f (show (othI μ k (nI vx) (nI vy)) = false from hr)) ?_
            exact hE _ _ (kr_z dX7_isOther_58)
          ·
            refine lv_iload hx hb dX7_isOther_32 (lv_at hl 4 rfl) ?_
            refine lv_iload_n hx hb dX7_isOther_34 rfl (lv_at hl 1 rfl) ?_
            refine n_icmp_eq (tgt := 51) hx hb dX7_isOther_35 (by decide) (by omega) (by omega) (fun c_35 => ?_) (fun c_35 => ?_)
            ·
              refine lv_iinc (v := nI (vo + 1)) (lv' := [(4, .int (nI (vo + 1))), (0, .ref om), (1, .int (nI k)), (2, .int (nI vx)), (3, .int (nI vy))]) hx hb dX7_isOther_51 hl (k := 4) rfl (inc1 _) (by decide) rfl (fun ls hl => ?_)
              refine lv_goto (tgt := 23) hx hb dX7_isOther_54 (by decide) ?_
              exact ih23 (vo + 1) (by omega) (by rw [hfo, show μ.1 19 - vo = (μ.1 19 - (vo + 1)) + 1 from by omega]; exact fnd_f (P := otP μ k vx vy) (by show (!decide _ && !decide _) = false; rw [decide_eq_true (p := vo = k) c_35]; rfl)) (by omega) ls (lv_sub hl [1, 2, 3, 4, 0] rfl)
            ·
              have hon := on_lt h0 hl0 (show vo < μ.1 19 by omega) vx vy
              refine lv_aload_n hx hb dX7_isOther_38 rfl (lv_at hl 0 rfl) ?_
              refine lv_iload hx hb dX7_isOther_39 (lv_at hl 4 rfl) ?_
              refine lv_iload_n hx hb dX7_isOther_41 rfl (lv_at hl 2 rfl) ?_
              refine lv_iload_n hx hb dX7_isOther_42 rfl (lv_at hl 3 rfl) ?_
              refine crV (rest := []) S hK (c_X7_on l G om μ vo vx vy (by first | assumption | omega | decide) (by first | assumption | omega | decide) (by first | assumption | omega | decide) (by first | assumption | omega | decide) (by first | assumption | omega | decide)) cw_X7_265 rfl ⟨Nat.le_of_ble_eq_true rfl, Nat.le_of_ble_eq_true rfl⟩ ⟨Nat.le_of_ble_eq_true rfl, Nat.le_of_ble_eq_true rfl⟩ (bk.recv hK hM rfl rfl) hl.1 rfl (Nat.le_of_ble_eq_true rfl) dX7_isOther_43 hM ?_
              refine n_if_eq (tgt := 51) hx hb dX7_isOther_46 (by decide) (by omega) (fun c_46 => ?_) (fun c_46 => ?_)
              ·
                refine lv_iinc (v := nI (vo + 1)) (lv' := [(4, .int (nI (vo + 1))), (0, .ref om), (1, .int (nI k)), (2, .int (nI vx)), (3, .int (nI vy))]) hx hb dX7_isOther_51 hl (k := 4) rfl (inc1 _) (by decide) rfl (fun ls hl => ?_)
                refine lv_goto (tgt := 23) hx hb dX7_isOther_54 (by decide) ?_
                exact ih23 (vo + 1) (by omega) (by rw [hfo, show μ.1 19 - vo = (μ.1 19 - (vo + 1)) + 1 from by omega]; exact fnd_f (P := otP μ k vx vy) (by show (!decide _ && !decide _) = false; rw [decide_eq_true (p := onM μ vo vx vy = 0) c_46]; simp)) (by omega) ls (lv_sub hl [1, 2, 3, 4, 0] rfl)
              ·
                have hr : othI μ k (nI vx) (nI vy) = true := by rw [hoe, hfo, show μ.1 19 - vo = (μ.1 19 - (vo + 1)) + 1 from by omega, fnd_t (P := otP μ k vx vy) (by show (!decide _ && !decide _) = true; rw [decide_eq_false (p := vo = k) c_35, decide_eq_false (p := onM μ vo vx vy = 0) c_46]; rfl)]; rfl
                refine lv_iconst (v := nI 1) hx hb dX7_isOther_49 (by decide) ?_
                refine w_top (v' := .int (b2i (othI μ k (nI vx) (nI vy)))) (bz_t (show (othI μ k (nI vx) (nI vy)) = true from hr)) ?_
                exact hE _ _ (kr_z dX7_isOther_50)
      exact L23 ((μ.1 19 - 0) + 1) 0 (Nat.zero_le _) rfl (Nat.lt_succ_self _) ls (lv_sub hl [1, 2, 3, 4, 0] rfl)
    ·
      have hr : othI μ k (nI vx) y = false := by unfold othI; rw [c_6, c_15]; rfl
      refine lv_iconst (v := nI 0) hx hb dX7_isOther_18 (by decide) ?_
      refine w_top (v' := .int (b2i (othI μ k (nI vx) y))) (bz_f (show (othI μ k (nI vx) y) = false from hr)) ?_
      exact hE _ _ (kr_z dX7_isOther_19)

set_option maxHeartbeats 1000000 in
set_option maxRecDepth 100000 in
theorem c_X7_leaks (l : Launch) (G : Gt) (om : Nat) (μ : Sx) (h0 : MI0 μ) (hl0 : MIl μ) (hg0 : MIg μ) : Cr l G yX7_leaks cX7_leaks 4 ((some .int)) 4 [.ref om] (fun H => bk G om (mL G om μ) H) (some (.int (leak_M μ))) := by
  refine cr_entry [(0, .ref om)] (by decide) (Nat.le_of_ble_eq_true rfl) rfl ?_
  intro zp ze zs zm za zb zt zc Q S hK hPre hE ls hl
  have hx := S.1
  have hb := S.2.1
  have hM := hPre
  have hp24 := h0.1
  have hl10 := hl0.1
  have hfo : ∀ o, o < μ.1 19 → μ.2.1 12 o < 24 ∧ fcL μ o ≤ 5 := fun o ho => ⟨by have := (hl0.2 o ho).1; omega, (h0.2 _ (hl0.2 o ho).1).2.2.2.2.1⟩
  refine lv_iconst (v := nI 0) hx hb dX7_leaks_0 (by decide) ?_
  refine lv_istore_n (lv' := [(1, .int (nI 0)), (0, .ref om)]) hx hb dX7_leaks_1 rfl hl (by decide) rfl (fun ls hl => ?_)
  have L2 : ∀ (fu : Nat), ∀ (vl : Nat), (vl ≤ μ.1 19) → (fnd (lkB μ) (μ.1 19) 0 = fnd (lkB μ) (μ.1 19 - vl) vl) → μ.1 19 - vl < fu → ∀ ls : Array Slot, lv_has ls 4 [(0, .ref om), (1, .int (nI vl))] → W zp l ze (rL 4 0 0) zs zm za zb zt zc zs.heap [] 0 0 Q (F0 zm 2 ls []) := by
    intro fu
    induction fu with
    | zero =>
      intro vl hvl hfl hmu ls hl
      exact absurd hmu (Nat.not_lt_zero _)
    | succ fu ih2 =>
      intro vl hvl hfl hmu ls hl
      refine lv_iload_n hx hb dX7_leaks_2 rfl (lv_at hl 1 rfl) ?_
      refine lv_aload_n hx hb dX7_leaks_3 rfl (lv_at hl 0 rfl) ?_
      refine kg (C := RX7) (T := TX7) (N := 32) (ci := 5) (k := 19) (v := .int (nI (μ.1 19))) S hK rfl inX7 (by decide) q_749 dX7_leaks_4 hM rfl rfl ?_
      refine n_icmp_ge (tgt := 140) hx hb dX7_leaks_7 (by decide) (by omega) (by omega) (fun c_7 => ?_) (fun c_7 => ?_)
      ·
        have hr : (-9 : Int32) = leak_M μ := by
          show _ = oI (fnd (lkB μ) (μ.1 19) 0)
          rw [hfl, show μ.1 19 - vl = 0 from by omega]
          rfl
        refine lv_bipush (v := (-9)) hx hb dX7_leaks_140 (by decide) ?_
        refine w_top (v' := .int (leak_M μ)) (congrArg (fun z => Value.int z) (show (-9) = (leak_M μ) from hr)) ?_
        exact hE _ _ (kr_i dX7_leaks_142)
      ·
        have hvl2 : vl < μ.1 19 := by omega
        have hlo := hfo vl hvl2
        have hlo5 : μ.2.1 3 (μ.2.1 12 vl) ≤ 5 := hlo.2
        refine lv_iconst (v := nI 0) hx hb dX7_leaks_10 (by decide) ?_
        refine lv_istore_n (lv' := [(2, .int (nI 0)), (0, .ref om), (1, .int (nI vl))]) hx hb dX7_leaks_11 rfl hl (by decide) rfl (fun ls hl => ?_)
        have L12 : ∀ (fu : Nat), ∀ (vf : Nat), (vf ≤ fcL μ vl) → (fnd (lfB μ vl) (fcL μ vl) 0 = fnd (lfB μ vl) (fcL μ vl - vf) vf) → fcL μ vl - vf < fu → ∀ ls : Array Slot, lv_has ls 4 [(0, .ref om), (1, .int (nI vl)), (2, .int (nI vf))] → W zp l ze (rL 4 0 0) zs zm za zb zt zc zs.heap [] 0 0 Q (F0 zm 12 ls []) := by
          intro fu
          induction fu with
          | zero =>
            intro vf hvf hff hmu ls hl
            exact absurd hmu (Nat.not_lt_zero _)
          | succ fu ih12 =>
            intro vf hvf hff hmu ls hl
            refine lv_iload_n hx hb dX7_leaks_12 rfl (lv_at hl 2 rfl) ?_
            refine lv_aload_n hx hb dX7_leaks_13 rfl (lv_at hl 0 rfl) ?_
            refine kg (C := RX7) (T := TX7) (N := 32) (ci := 5) (k := 3) (v := .ref (om + 4)) S hK rfl inX7 (by decide) q_733 dX7_leaks_14 hM rfl rfl ?_
            refine lv_aload_n hx hb dX7_leaks_17 rfl (lv_at hl 0 rfl) ?_
            refine kg (C := RX7) (T := TX7) (N := 32) (ci := 5) (k := 12) (v := .ref (om + 13)) S hK rfl inX7 (by decide) q_742 dX7_leaks_18 hM rfl rfl ?_
            refine lv_iload_n hx hb dX7_leaks_21 rfl (lv_at hl 1 rfl) ?_
            refine kil (f := μ.2.1 12) S hK dX7_leaks_22 13 hM rfl (by decide) rfl (by omega) ?_
            refine kil (f := μ.2.1 3) S hK dX7_leaks_23 4 hM rfl (by decide) rfl (by omega) ?_
            refine n_icmp_ge (tgt := 45) hx hb dX7_leaks_24 (by decide) (by omega) (by omega) (fun c_24 => ?_) (fun c_24 => ?_)
            ·
              have c_24 : ¬ vf < fcL μ vl := Nat.not_lt.mpr c_24
              refine lv_iconst (v := nI 0) hx hb dX7_leaks_45 (by decide) ?_
              refine lv_istore_n (lv' := [(2, .int (nI 0)), (0, .ref om), (1, .int (nI vl))]) hx hb dX7_leaks_46 rfl hl (by decide) rfl (fun ls hl => ?_)
              have L47 : ∀ (fu : Nat), ∀ (vx : Nat), (vx ≤ 12) → ((fnd (lfB μ vl) (fcL μ vl) 0).isSome = false) → (fnd (lxB μ vl) 144 0 = fnd (lxB μ vl) (144 - 12 * vx) (12 * vx)) → 12 - vx < fu → ∀ ls : Array Slot, lv_has ls 4 [(0, .ref om), (1, .int (nI vl)), (2, .int (nI vx))] → W zp l ze (rL 4 0 0) zs zm za zb zt zc zs.heap [] 0 0 Q (F0 zm 47 ls []) := by
                intro fu
                induction fu with
                | zero =>
                  intro vx hvx hnf hfx hmu ls hl
                  exact absurd hmu (Nat.not_lt_zero _)
                | succ fu ih47 =>
                  intro vx hvx hnf hfx hmu ls hl
                  refine lv_iload_n hx hb dX7_leaks_47 rfl (lv_at hl 2 rfl) ?_
                  refine lv_bipush (v := nI 12) hx hb dX7_leaks_48 (by decide) ?_
                  refine n_icmp_ge (tgt := 134) hx hb dX7_leaks_50 (by decide) (by omega) (by decide) (fun c_50 => ?_) (fun c_50 => ?_)
                  ·
                    refine lv_iinc (v := nI (vl + 1)) (lv' := [(1, .int (nI (vl + 1))), (0, .ref om), (2, .int (nI vx))]) hx hb dX7_leaks_134 hl (k := 1) rfl (inc1 _) (by decide) rfl (fun ls hl => ?_)
                    refine lv_goto (tgt := 2) hx hb dX7_leaks_137 (by decide) ?_
                    exact ih2 (vl + 1) (by omega) (by rw [hfl, show μ.1 19 - vl = (μ.1 19 - (vl + 1)) + 1 from by omega]; exact fnd_f (P := lkB μ) (by show (_ || (fnd (lxB μ vl) 144 0).isSome) = false; rw [hnf, hfx, show 144 - 12 * vx = 0 from by omega]; rfl)) (by omega) ls (lv_sub hl [1, 0] rfl)
                  ·
                    refine lv_iconst (v := nI 0) hx hb dX7_leaks_53 (by decide) ?_
                    refine lv_istore_n (lv' := [(3, .int (nI 0)), (0, .ref om), (1, .int (nI vl)), (2, .int (nI vx))]) hx hb dX7_leaks_54 rfl hl (by decide) rfl (fun ls hl => ?_)
                    have L55 : ∀ (fu : Nat), ∀ (vy : Nat), (vy ≤ 12) → (fnd (lxB μ vl) 144 0 = fnd (lxB μ vl) (144 - (12 * vx + vy)) (12 * vx + vy)) → 12 - vy < fu → ∀ ls : Array Slot, lv_has ls 4 [(0, .ref om), (1, .int (nI vl)), (2, .int (nI vx)), (3, .int (nI vy))] → W zp l ze (rL 4 0 0) zs zm za zb zt zc zs.heap [] 0 0 Q (F0 zm 55 ls []) := by
                      intro fu
                      induction fu with
                      | zero =>
                        intro vy hvy hfy hmu ls hl
                        exact absurd hmu (Nat.not_lt_zero _)
                      | succ fu ih55 =>
                        intro vy hvy hfy hmu ls hl
                        refine lv_iload_n hx hb dX7_leaks_55 rfl (lv_at hl 3 rfl) ?_
                        refine lv_bipush (v := nI 12) hx hb dX7_leaks_56 (by decide) ?_
                        refine n_icmp_ge (tgt := 128) hx hb dX7_leaks_58 (by decide) (by omega) (by decide) (fun c_58 => ?_) (fun c_58 => ?_)
                        ·
                          refine lv_iinc (v := nI (vx + 1)) (lv' := [(2, .int (nI (vx + 1))), (0, .ref om), (1, .int (nI vl)), (3, .int (nI vy))]) hx hb dX7_leaks_128 hl (k := 2) rfl (inc1 _) (by decide) rfl (fun ls hl => ?_)
                          refine lv_goto (tgt := 47) hx hb dX7_leaks_131 (by decide) ?_
                          exact ih47 (vx + 1) (by omega) hnf (by rw [hfy, show 12 * vx + vy = 12 * (vx + 1) from by omega]) (by omega) ls (lv_sub hl [1, 2, 0] rfl)
                        ·
                          have e1 : (12 * vx + vy) / 12 = vx := by omega
                          have e2 : (12 * vx + vy) % 12 = vy := by omega
                          have hon := on_lt h0 hl0 hvl2 vx vy
                          refine lv_aload_n hx hb dX7_leaks_61 rfl (lv_at hl 0 rfl) ?_
                          refine lv_iload_n hx hb dX7_leaks_62 rfl (lv_at hl 1 rfl) ?_
                          refine lv_iload_n hx hb dX7_leaks_63 rfl (lv_at hl 2 rfl) ?_
                          refine lv_iload_n hx hb dX7_leaks_64 rfl (lv_at hl 3 rfl) ?_
                          refine crV (rest := []) S hK (c_X7_on l G om μ vl vx vy (by first | assumption | omega | decide) (by first | assumption | omega | decide) (by first | assumption | omega | decide) (by first | assumption | omega | decide) (by first | assumption | omega | decide)) cw_X7_265 rfl ⟨Nat.le_of_ble_eq_true rfl, Nat.le_of_ble_eq_true rfl⟩ ⟨Nat.le_of_ble_eq_true rfl, Nat.le_of_ble_eq_true rfl⟩ (bk.recv hK hM rfl rfl) hl.1 rfl (Nat.le_of_ble_eq_true rfl) dX7_leaks_65 hM ?_
                          refine lv_iconst (v := nI 1) hx hb dX7_leaks_68 (by decide) ?_
                          refine n_icmp_ne (tgt := 122) hx hb dX7_leaks_69 (by decide) (by omega) (by decide) (fun c_69 => ?_) (fun c_69 => ?_)
                          ·
                            refine lv_iinc (v := nI (vy + 1)) (lv' := [(3, .int (nI (vy + 1))), (0, .ref om), (1, .int (nI vl)), (2, .int (nI vx))]) hx hb dX7_leaks_122 hl (k := 3) rfl (inc1 _) (by decide) rfl (fun ls hl => ?_)
                            refine lv_goto (tgt := 55) hx hb dX7_leaks_125 (by decide) ?_
                            exact ih55 (vy + 1) (by omega) (by rw [hfy, show 144 - (12 * vx + vy) = (144 - (12 * vx + (vy + 1))) + 1 from by omega]; exact fnd_f (P := lxB μ vl) (by show (decide _ && _) = false; rw [e1, e2]; rw [decide_eq_false (p := onM μ vl vx vy = 1) c_69]; rfl)) (by omega) ls (lv_sub hl [1, 2, 3, 0] rfl)
                          ·
                            refine lv_aload_n hx hb dX7_leaks_72 rfl (lv_at hl 0 rfl) ?_
                            refine lv_iload_n hx hb dX7_leaks_73 rfl (lv_at hl 1 rfl) ?_
                            refine lv_iload_n hx hb dX7_leaks_74 rfl (lv_at hl 2 rfl) ?_
                            refine lv_iconst (v := nI 1) hx hb dX7_leaks_75 (by decide) ?_
                            refine lv_isub hx hb dX7_leaks_76 ?_
                            refine lv_iload_n hx hb dX7_leaks_77 rfl (lv_at hl 3 rfl) ?_
                            refine crV (rest := []) S hK (c_X7_isOther l G om μ vl ((nI vx) - (nI 1)) (nI vy) (by first | assumption | omega | decide) (by first | assumption | omega | decide) (by first | assumption | omega | decide)) cw_X7_280 rfl ⟨Nat.le_of_ble_eq_true rfl, Nat.le_of_ble_eq_true rfl⟩ ⟨Nat.le_of_ble_eq_true rfl, Nat.le_of_ble_eq_true rfl⟩ (bk.recv hK hM rfl rfl) hl.1 rfl (Nat.le_of_ble_eq_true rfl) dX7_leaks_78 hM ?_
                            refine z_if_ne (tgt := 120) hx hb dX7_leaks_81 (by decide) (fun c_81 => ?_) (fun c_81 => ?_)
                            ·
                              have hr : nI vl = leak_M μ := by
                                have hb9 : lkB μ vl = true := by
                                  show (_ || (fnd (lxB μ vl) 144 0).isSome) = true
                                  rw [hfy, show 144 - (12 * vx + vy) = (144 - (12 * vx + (vy + 1))) + 1 from by omega, fnd_t (P := lxB μ vl) (by show (decide _ && _) = true; rw [e1, e2, decide_eq_true (p := onM μ vl vx vy = 1) c_69]; unfold opS; rw [c_81, Bool.true_or]; rfl)]
                                  exact Bool.or_true _
                                show _ = oI (fnd (lkB μ) (μ.1 19) 0)
                                rw [hfl, show μ.1 19 - vl = (μ.1 19 - (vl + 1)) + 1 from by omega, fnd_t (P := lkB μ) hb9]
                                rfl
                              refine lv_iload_n hx hb dX7_leaks_120 rfl (lv_at hl 1 rfl) ?_
                              refine w_top (v' := .int (leak_M μ)) (show (.int (nI vl) : Value) = .int (leak_M μ) from (congrArg (fun z => Value.int z) hr)) ?_
                              exact hE _ _ (kr_i dX7_leaks_121)
                            ·
                              refine lv_aload_n hx hb dX7_leaks_84 rfl (lv_at hl 0 rfl) ?_
                              refine lv_iload_n hx hb dX7_leaks_85 rfl (lv_at hl 1 rfl) ?_
                              refine lv_iload_n hx hb dX7_leaks_86 rfl (lv_at hl 2 rfl) ?_
                              refine lv_iconst (v := nI 1) hx hb dX7_leaks_87 (by decide) ?_
                              refine n_iadd hx hb dX7_leaks_88 ?_
                              refine lv_iload_n hx hb dX7_leaks_89 rfl (lv_at hl 3 rfl) ?_
                              refine crV (rest := []) S hK (c_X7_isOther l G om μ vl (nI (vx + 1)) (nI vy) (by first | assumption | omega | decide) (by first | assumption | omega | decide) (by first | assumption | omega | decide)) cw_X7_280 rfl ⟨Nat.le_of_ble_eq_true rfl, Nat.le_of_ble_eq_true rfl⟩ ⟨Nat.le_of_ble_eq_true rfl, Nat.le_of_ble_eq_true rfl⟩ (bk.recv hK hM rfl rfl) hl.1 rfl (Nat.le_of_ble_eq_true rfl) dX7_leaks_90 hM ?_
                              refine z_if_ne (tgt := 120) hx hb dX7_leaks_93 (by decide) (fun c_93 => ?_) (fun c_93 => ?_)
                              ·
                                have hr : nI vl = leak_M μ := by
                                  have hb9 : lkB μ vl = true := by
                                    show (_ || (fnd (lxB μ vl) 144 0).isSome) = true
                                    rw [hfy, show 144 - (12 * vx + vy) = (144 - (12 * vx + (vy + 1))) + 1 from by omega, fnd_t (P := lxB μ vl) (by show (decide _ && _) = true; rw [e1, e2, decide_eq_true (p := onM μ vl vx vy = 1) c_69]; unfold opS; rw [c_81, c_93, Bool.true_or, Bool.or_true]; rfl)]
                                    exact Bool.or_true _
                                  show _ = oI (fnd (lkB μ) (μ.1 19) 0)
                                  rw [hfl, show μ.1 19 - vl = (μ.1 19 - (vl + 1)) + 1 from by omega, fnd_t (P := lkB μ) hb9]
                                  rfl
                                refine lv_iload_n hx hb dX7_leaks_120 rfl (lv_at hl 1 rfl) ?_
                                refine w_top (v' := .int (leak_M μ)) (show (.int (nI vl) : Value) = .int (leak_M μ) from (congrArg (fun z => Value.int z) hr)) ?_
                                exact hE _ _ (kr_i dX7_leaks_121)
                              ·
                                refine lv_aload_n hx hb dX7_leaks_96 rfl (lv_at hl 0 rfl) ?_
                                refine lv_iload_n hx hb dX7_leaks_97 rfl (lv_at hl 1 rfl) ?_
                                refine lv_iload_n hx hb dX7_leaks_98 rfl (lv_at hl 2 rfl) ?_
                                refine lv_iload_n hx hb dX7_leaks_99 rfl (lv_at hl 3 rfl) ?_
                                refine lv_iconst (v := nI 1) hx hb dX7_leaks_100 (by decide) ?_
                                refine lv_isub hx hb dX7_leaks_101 ?_
                                refine crV (rest := []) S hK (c_X7_isOther l G om μ vl (nI vx) ((nI vy) - (nI 1)) (by first | assumption | omega | decide) (by first | assumption | omega | decide) (by first | assumption | omega | decide)) cw_X7_280 rfl ⟨Nat.le_of_ble_eq_true rfl, Nat.le_of_ble_eq_true rfl⟩ ⟨Nat.le_of_ble_eq_true rfl, Nat.le_of_ble_eq_true rfl⟩ (bk.recv hK hM rfl rfl) hl.1 rfl (Nat.le_of_ble_eq_true rfl) dX7_leaks_102 hM ?_
                                refine z_if_ne (tgt := 120) hx hb dX7_leaks_105 (by decide) (fun c_105 => ?_) (fun c_105 => ?_)
                                ·
                                  have hr : nI vl = leak_M μ := by
                                    have hb9 : lkB μ vl = true := by
                                      show (_ || (fnd (lxB μ vl) 144 0).isSome) = true
                                      rw [hfy, show 144 - (12 * vx + vy) = (144 - (12 * vx + (vy + 1))) + 1 from by omega, fnd_t (P := lxB μ vl) (by show (decide _ && _) = true; rw [e1, e2, decide_eq_true (p := onM μ vl vx vy = 1) c_69]; unfold opS; rw [c_81, c_93, c_105, Bool.true_or, Bool.or_true, Bool.or_true]; rfl)]
                                      exact Bool.or_true _
                                    show _ = oI (fnd (lkB μ) (μ.1 19) 0)
                                    rw [hfl, show μ.1 19 - vl = (μ.1 19 - (vl + 1)) + 1 from by omega, fnd_t (P := lkB μ) hb9]
                                    rfl
                                  refine lv_iload_n hx hb dX7_leaks_120 rfl (lv_at hl 1 rfl) ?_
                                  refine w_top (v' := .int (leak_M μ)) (show (.int (nI vl) : Value) = .int (leak_M μ) from (congrArg (fun z => Value.int z) hr)) ?_
                                  exact hE _ _ (kr_i dX7_leaks_121)
                                ·
                                  refine lv_aload_n hx hb dX7_leaks_108 rfl (lv_at hl 0 rfl) ?_
                                  refine lv_iload_n hx hb dX7_leaks_109 rfl (lv_at hl 1 rfl) ?_
                                  refine lv_iload_n hx hb dX7_leaks_110 rfl (lv_at hl 2 rfl) ?_
                                  refine lv_iload_n hx hb dX7_leaks_111 rfl (lv_at hl 3 rfl) ?_
                                  refine lv_iconst (v := nI 1) hx hb dX7_leaks_112 (by decide) ?_
                                  refine n_iadd hx hb dX7_leaks_113 ?_
                                  refine crV (rest := []) S hK (c_X7_isOther l G om μ vl (nI vx) (nI (vy + 1)) (by first | assumption | omega | decide) (by first | assumption | omega | decide) (by first | assumption | omega | decide)) cw_X7_280 rfl ⟨Nat.le_of_ble_eq_true rfl, Nat.le_of_ble_eq_true rfl⟩ ⟨Nat.le_of_ble_eq_true rfl, Nat.le_of_ble_eq_true rfl⟩ (bk.recv hK hM rfl rfl) hl.1 rfl (Nat.le_of_ble_eq_true rfl) dX7_leaks_114 hM ?_
                                  refine z_if_eq (tgt := 122) hx hb dX7_leaks_117 (by decide) (fun c_117 => ?_) (fun c_117 => ?_)
                                  ·
                                    refine lv_iinc (v := nI (vy + 1)) (lv' := [(3, .int (nI (vy + 1))), (0, .ref om), (1, .int (nI vl)), (2, .int (nI vx))]) hx hb dX7_leaks_122 hl (k := 3) rfl (inc1 _) (by decide) rfl (fun ls hl => ?_)
                                    refine lv_goto (tgt := 55) hx hb dX7_leaks_125 (by decide) ?_
                                    exact ih55 (vy + 1) (by omega) (by rw [hfy, show 144 - (12 * vx + vy) = (144 - (12 * vx + (vy + 1))) + 1 from by omega]; exact fnd_f (P := lxB μ vl) (by show (decide _ && _) = false; rw [e1, e2]; unfold opS; rw [c_81, c_93, c_105, c_117]; simp)) (by omega) ls (lv_sub hl [1, 2, 3, 0] rfl)
                                  ·
                                    have hr : nI vl = leak_M μ := by
                                      have hb9 : lkB μ vl = true := by
                                        show (_ || (fnd (lxB μ vl) 144 0).isSome) = true
                                        rw [hfy, show 144 - (12 * vx + vy) = (144 - (12 * vx + (vy + 1))) + 1 from by omega, fnd_t (P := lxB μ vl) (by show (decide _ && _) = true; rw [e1, e2, decide_eq_true (p := onM μ vl vx vy = 1) c_69]; unfold opS; rw [c_81, c_93, c_105, c_117, Bool.or_true, Bool.or_true, Bool.or_true]; rfl)]
                                        exact Bool.or_true _
                                      show _ = oI (fnd (lkB μ) (μ.1 19) 0)
                                      rw [hfl, show μ.1 19 - vl = (μ.1 19 - (vl + 1)) + 1 from by omega, fnd_t (P := lkB μ) hb9]
                                      rfl
                                    refine lv_iload_n hx hb dX7_leaks_120 rfl (lv_at hl 1 rfl) ?_
                                    refine w_top (v' := .int (leak_M μ)) (show (.int (nI vl) : Value) = .int (leak_M μ) from (congrArg (fun z => Value.int z) hr)) ?_
                                    exact hE _ _ (kr_i dX7_leaks_121)
                    exact L55 ((12 - 0) + 1) 0 (Nat.zero_le _) hfx (Nat.lt_succ_self _) ls (lv_sub hl [1, 2, 3, 0] rfl)
              exact L47 ((12 - 0) + 1) 0 (Nat.zero_le _) (by rw [hff, show fcL μ vl - vf = 0 from by omega]; rfl) rfl (Nat.lt_succ_self _) ls (lv_sub hl [1, 2, 0] rfl)
            ·
              have c_24 : vf < fcL μ vl := Nat.not_le.mp c_24
              refine lv_aload_n hx hb dX7_leaks_27 rfl (lv_at hl 0 rfl) ?_
              refine lv_iload_n hx hb dX7_leaks_28 rfl (lv_at hl 1 rfl) ?_
              refine lv_iload_n hx hb dX7_leaks_29 rfl (lv_at hl 2 rfl) ?_
              refine lv_iconst (v := nI 1) hx hb dX7_leaks_30 (by decide) ?_
              refine crV (rest := []) S hK (c_X7_met l G om μ vl vf 1 (by first | assumption | omega | decide) (by first | assumption | omega | decide) (by first | assumption | omega | decide) (by first | assumption | omega | decide) c_24 (by first | assumption | omega | decide)) cw_X7_277 rfl ⟨Nat.le_of_ble_eq_true rfl, Nat.le_of_ble_eq_true rfl⟩ ⟨Nat.le_of_ble_eq_true rfl, Nat.le_of_ble_eq_true rfl⟩ (bk.recv hK hM rfl rfl) hl.1 rfl (Nat.le_of_ble_eq_true rfl) dX7_leaks_31 hM ?_
              refine lv_if_lt (tgt := 39) hx hb dX7_leaks_34 (by decide) (fun c_34 => ?_) (fun c_34 => ?_)
              ·
                refine lv_iinc (v := nI (vf + 1)) (lv' := [(2, .int (nI (vf + 1))), (0, .ref om), (1, .int (nI vl))]) hx hb dX7_leaks_39 hl (k := 2) rfl (inc1 _) (by decide) rfl (fun ls hl => ?_)
                refine lv_goto (tgt := 12) hx hb dX7_leaks_42 (by decide) ?_
                exact ih12 (vf + 1) (by omega) (by rw [hff, show fcL μ vl - vf = (fcL μ vl - (vf + 1)) + 1 from by omega]; exact fnd_f (P := lfB μ vl) (by show (!decide _) = false; rw [decide_eq_true c_34]; rfl)) (by omega) ls (lv_sub hl [1, 2, 0] rfl)
              ·
                have hr : nI vl = leak_M μ := by
                  have hb9 : lkB μ vl = true := by
                    show ((fnd (lfB μ vl) (fcL μ vl) 0).isSome || _) = true
                    rw [hff, show fcL μ vl - vf = (fcL μ vl - (vf + 1)) + 1 from by omega, fnd_t (P := lfB μ vl) (by show (!decide _) = true; rw [decide_eq_false c_34]; rfl)]
                    rfl
                  show _ = oI (fnd (lkB μ) (μ.1 19) 0)
                  rw [hfl, show μ.1 19 - vl = (μ.1 19 - (vl + 1)) + 1 from by omega, fnd_t (P := lkB μ) hb9]
                  rfl
                refine lv_iload_n hx hb dX7_leaks_37 rfl (lv_at hl 1 rfl) ?_
                refine w_top (v' := .int (leak_M μ)) (show (.int (nI vl) : Value) = .int (leak_M μ) from (congrArg (fun z => Value.int z) hr)) ?_
                exact hE _ _ (kr_i dX7_leaks_38)
        exact L12 ((fcL μ vl - 0) + 1) 0 (Nat.zero_le _) rfl (Nat.lt_succ_self _) ls (lv_sub hl [1, 2, 0] rfl)
  exact L2 ((μ.1 19 - 0) + 1) 0 (Nat.zero_le _) rfl (Nat.lt_succ_self _) ls (lv_sub hl [1, 0] rfl)

set_option maxHeartbeats 1000000 in
set_option maxRecDepth 100000 in
theorem c_X7_leak (l : Launch) (G : Gt) (om : Nat) (μ : Sx) (h0 : MI0 μ) (hl0 : MIl μ) (hg0 : MIg μ) : Cr l G yX7_leak cX7_leak 1 ((some .int)) 5 [.ref om] (fun H => bk G om (mL G om μ) H) (some (.int (leak_M μ))) := by
  refine cr_entry [(0, .ref om)] (by decide) (Nat.le_of_ble_eq_true rfl) rfl ?_
  intro zp ze zs zm za zb zt zc Q S hK hPre hE ls hl
  have hx := S.1
  have hb := S.2.1
  have hM := hPre
  refine lv_aload_n hx hb dX7_leak_0 rfl (lv_at hl 0 rfl) ?_
  refine crV (rest := []) S hK (c_X7_leaks l G om μ (by first | assumption | omega | decide) (by first | assumption | omega | decide) (by first | assumption | omega | decide)) cw_X7_284 rfl ⟨Nat.le_of_ble_eq_true rfl, Nat.le_of_ble_eq_true rfl⟩ ⟨Nat.le_of_ble_eq_true rfl, Nat.le_of_ble_eq_true rfl⟩ (bk.recv hK hM rfl rfl) hl.1 rfl (Nat.le_of_ble_eq_true rfl) dX7_leak_1 hM ?_
  exact hE _ _ (kr_i dX7_leak_4)

theorem fc1_yes {Z : Nat → Nat → Bool} {k f : Nat} (h : Z k f = true) : fc1 Z k f + 1 = fc1 Z k (f + 1) := by
  show _ = fc1 Z k f + (if Z k f = true then 1 else 0)
  rw [if_pos h]
theorem fc1_no {Z : Nat → Nat → Bool} {k f : Nat} (h : Z k f = false) : fc1 Z k f = fc1 Z k (f + 1) := by
  show _ = fc1 Z k f + (if Z k f = true then 1 else 0)
  rw [if_neg (by rw [h]; decide)]
  rfl

set_option maxHeartbeats 1000000 in
set_option maxRecDepth 100000 in
theorem c_X7_meetings (l : Launch) (G : Gt) (om : Nat) (μ : Sx) (h0 : MI0 μ) (hl0 : MIl μ) (hg0 : MIg μ) : Cr l G yX7_meetings cX7_meetings 4 ((some .int)) 4 [.ref om] (fun H => bk G om (mL G om μ) H) (some (.int (nI (fcN (fcL μ) (mtC μ) (μ.1 19))))) := by
  refine cr_entry [(0, .ref om)] (by decide) (Nat.le_of_ble_eq_true rfl) rfl ?_
  intro zp ze zs zm za zb zt zc Q S hK hPre hE ls hl
  have hx := S.1
  have hb := S.2.1
  have hM := hPre
  have hp24 := h0.1
  have hl10 := hl0.1
  have hfo : ∀ o, o < μ.1 19 → μ.2.1 12 o < 24 ∧ fcL μ o ≤ 5 := fun o ho => ⟨by have := (hl0.2 o ho).1; omega, (h0.2 _ (hl0.2 o ho).1).2.2.2.2.1⟩
  refine lv_iconst (v := nI 0) hx hb dX7_meetings_0 (by decide) ?_
  refine lv_istore_n (lv' := [(1, .int (nI 0)), (0, .ref om)]) hx hb dX7_meetings_1 rfl hl (by decide) rfl (fun ls hl => ?_)
  refine lv_iconst (v := nI 0) hx hb dX7_meetings_2 (by decide) ?_
  refine lv_istore_n (lv' := [(2, .int (nI 0)), (1, .int (nI 0)), (0, .ref om)]) hx hb dX7_meetings_3 rfl hl (by decide) rfl (fun ls hl => ?_)
  have L4 : ∀ (fu : Nat), ∀ (vl : Nat), (vl ≤ μ.1 19) → μ.1 19 - vl < fu → ∀ ls : Array Slot, lv_has ls 4 [(0, .ref om), (1, .int (nI (fcN (fcL μ) (mtC μ) vl))), (2, .int (nI vl))] → W zp l ze (rL 4 0 0) zs zm za zb zt zc zs.heap [] 0 0 Q (F0 zm 4 ls []) := by
    intro fu
    induction fu with
    | zero =>
      intro vl hvl hmu ls hl
      exact absurd hmu (Nat.not_lt_zero _)
    | succ fu ih4 =>
      intro vl hvl hmu ls hl
      refine lv_iload_n hx hb dX7_meetings_4 rfl (lv_at hl 2 rfl) ?_
      refine lv_aload_n hx hb dX7_meetings_5 rfl (lv_at hl 0 rfl) ?_
      refine kg (C := RX7) (T := TX7) (N := 32) (ci := 5) (k := 19) (v := .int (nI (μ.1 19))) S hK rfl inX7 (by decide) q_749 dX7_meetings_6 hM rfl rfl ?_
      refine n_icmp_ge (tgt := 63) hx hb dX7_meetings_9 (by decide) (by omega) (by omega) (fun c_9 => ?_) (fun c_9 => ?_)
      ·
        have hv9 : vl = μ.1 19 := by omega
        refine lv_iload_n hx hb dX7_meetings_63 rfl (lv_at hl 1 rfl) ?_
        refine w_top (v' := .int (nI (fcN (fcL μ) (mtC μ) (μ.1 19)))) (congrArg (fun z => Value.int (nI z)) (show (fcN (fcL μ) (mtC μ) vl) = (fcN (fcL μ) (mtC μ) (μ.1 19)) from by rw [hv9])) ?_
        exact hE _ _ (kr_i dX7_meetings_64)
      ·
        have hvl2 : vl < μ.1 19 := by omega
        have hlo := hfo vl hvl2
        have hlo5 : μ.2.1 3 (μ.2.1 12 vl) ≤ 5 := hlo.2
        refine lv_iconst (v := nI 0) hx hb dX7_meetings_12 (by decide) ?_
        refine lv_istore_n (lv' := [(3, .int (nI 0)), (0, .ref om), (1, .int (nI (fcN (fcL μ) (mtC μ) vl))), (2, .int (nI vl))]) hx hb dX7_meetings_13 rfl hl (by decide) rfl (fun ls hl => ?_)
        have L14 : ∀ (fu : Nat), ∀ (vf : Nat), (vf ≤ fcL μ vl) → fcL μ vl - vf < fu → ∀ ls : Array Slot, lv_has ls 4 [(0, .ref om), (1, .int (nI (fcN (fcL μ) (mtC μ) vl + fc1 (mtC μ) vl vf))), (2, .int (nI vl)), (3, .int (nI vf))] → W zp l ze (rL 4 0 0) zs zm za zb zt zc zs.heap [] 0 0 Q (F0 zm 14 ls []) := by
          intro fu
          induction fu with
          | zero =>
            intro vf hvf hmu ls hl
            exact absurd hmu (Nat.not_lt_zero _)
          | succ fu ih14 =>
            intro vf hvf hmu ls hl
            refine lv_iload_n hx hb dX7_meetings_14 rfl (lv_at hl 3 rfl) ?_
            refine lv_aload_n hx hb dX7_meetings_15 rfl (lv_at hl 0 rfl) ?_
            refine kg (C := RX7) (T := TX7) (N := 32) (ci := 5) (k := 3) (v := .ref (om + 4)) S hK rfl inX7 (by decide) q_733 dX7_meetings_16 hM rfl rfl ?_
            refine lv_aload_n hx hb dX7_meetings_19 rfl (lv_at hl 0 rfl) ?_
            refine kg (C := RX7) (T := TX7) (N := 32) (ci := 5) (k := 12) (v := .ref (om + 13)) S hK rfl inX7 (by decide) q_742 dX7_meetings_20 hM rfl rfl ?_
            refine lv_iload_n hx hb dX7_meetings_23 rfl (lv_at hl 2 rfl) ?_
            refine kil (f := μ.2.1 12) S hK dX7_meetings_24 13 hM rfl (by decide) rfl (by omega) ?_
            refine kil (f := μ.2.1 3) S hK dX7_meetings_25 4 hM rfl (by decide) rfl (by omega) ?_
            refine n_icmp_ge (tgt := 57) hx hb dX7_meetings_26 (by decide) (by omega) (by omega) (fun c_26 => ?_) (fun c_26 => ?_)
            ·
              have c_26 : ¬ vf < fcL μ vl := Nat.not_lt.mpr c_26
              refine lv_iinc (v := nI (vl + 1)) (lv' := [(2, .int (nI (vl + 1))), (0, .ref om), (1, .int (nI (fcN (fcL μ) (mtC μ) vl + fc1 (mtC μ) vl vf))), (3, .int (nI vf))]) hx hb dX7_meetings_57 hl (k := 2) rfl (inc1 _) (by decide) rfl (fun ls hl => ?_)
              refine lv_goto (tgt := 4) hx hb dX7_meetings_60 (by decide) ?_
              replace hl := lv_eq 2 hl rfl (v2 := .int (nI (fcN (fcL μ) (mtC μ) (vl + 1)))) (congrArg (fun z => Value.int (nI z)) (show (fcN (fcL μ) (mtC μ) vl + fc1 (mtC μ) vl vf) = (fcN (fcL μ) (mtC μ) (vl + 1)) from by rw [show vf = fcL μ vl from by omega]; rfl))
              exact ih4 (vl + 1) (by omega) (by omega) ls (lv_sub hl [1, 2, 0] rfl)
            ·
              have c_26 : vf < fcL μ vl := Nat.not_le.mp c_26
              refine lv_iload_n hx hb dX7_meetings_29 rfl (lv_at hl 1 rfl) ?_
              refine lv_aload_n hx hb dX7_meetings_30 rfl (lv_at hl 0 rfl) ?_
              refine lv_iload_n hx hb dX7_meetings_31 rfl (lv_at hl 2 rfl) ?_
              refine lv_iload_n hx hb dX7_meetings_32 rfl (lv_at hl 3 rfl) ?_
              refine lv_iconst (v := nI 0) hx hb dX7_meetings_33 (by decide) ?_
              refine crV (rest := [.int (nI (fcN (fcL μ) (mtC μ) vl + fc1 (mtC μ) vl vf))]) S hK (c_X7_met l G om μ vl vf 0 (by first | assumption | omega | decide) (by first | assumption | omega | decide) (by first | assumption | omega | decide) (by first | assumption | omega | decide) c_26 (by first | assumption | omega | decide)) cw_X7_277 rfl ⟨Nat.le_of_ble_eq_true rfl, Nat.le_of_ble_eq_true rfl⟩ ⟨Nat.le_of_ble_eq_true rfl, Nat.le_of_ble_eq_true rfl⟩ (bk.recv hK hM rfl rfl) hl.1 rfl (Nat.le_of_ble_eq_true rfl) dX7_meetings_34 hM ?_
              refine lv_bipush (v := nI 10) hx hb dX7_meetings_37 (by decide) ?_
              refine lv_idiv hx hb dX7_meetings_39 (by decide) ?_
              refine lv_iload_n hx hb dX7_meetings_40 rfl (lv_at hl 2 rfl) ?_
              refine lv_icmp_le (tgt := 48) hx hb dX7_meetings_41 (by decide) (fun c_41 => ?_) (fun c_41 => ?_)
              ·
                refine lv_iconst (v := nI 0) hx hb dX7_meetings_48 (by decide) ?_
                refine n_iadd hx hb dX7_meetings_49 ?_
                refine lv_istore_n (lv' := [(1, .int (nI ((fcN (fcL μ) (mtC μ) vl + fc1 (mtC μ) vl vf) + 0))), (0, .ref om), (2, .int (nI vl)), (3, .int (nI vf))]) hx hb dX7_meetings_50 rfl hl (by decide) rfl (fun ls hl => ?_)
                refine lv_iinc (v := nI (vf + 1)) (lv' := [(3, .int (nI (vf + 1))), (1, .int (nI ((fcN (fcL μ) (mtC μ) vl + fc1 (mtC μ) vl vf) + 0))), (0, .ref om), (2, .int (nI vl))]) hx hb dX7_meetings_51 hl (k := 3) rfl (inc1 _) (by decide) rfl (fun ls hl => ?_)
                refine lv_goto (tgt := 14) hx hb dX7_meetings_54 (by decide) ?_
                replace hl := lv_eq 1 hl rfl (v2 := .int (nI (fcN (fcL μ) (mtC μ) vl + fc1 (mtC μ) vl (vf + 1)))) (congrArg (fun z => Value.int (nI z)) (show ((fcN (fcL μ) (mtC μ) vl + fc1 (mtC μ) vl vf) + 0) = (fcN (fcL μ) (mtC μ) vl + fc1 (mtC μ) vl (vf + 1)) from by rw [← fc1_no (show mtC μ vl vf = false from by show (!decide _) = _; rw [decide_eq_true c_41]; rfl)]; rfl))
                exact ih14 (vf + 1) (by omega) (by omega) ls (lv_sub hl [2, 1, 3, 0] rfl)
              ·
                refine lv_iconst (v := nI 1) hx hb dX7_meetings_44 (by decide) ?_
                refine lv_goto (tgt := 49) hx hb dX7_meetings_45 (by decide) ?_
                refine n_iadd hx hb dX7_meetings_49 ?_
                refine lv_istore_n (lv' := [(1, .int (nI ((fcN (fcL μ) (mtC μ) vl + fc1 (mtC μ) vl vf) + 1))), (0, .ref om), (2, .int (nI vl)), (3, .int (nI vf))]) hx hb dX7_meetings_50 rfl hl (by decide) rfl (fun ls hl => ?_)
                refine lv_iinc (v := nI (vf + 1)) (lv' := [(3, .int (nI (vf + 1))), (1, .int (nI ((fcN (fcL μ) (mtC μ) vl + fc1 (mtC μ) vl vf) + 1))), (0, .ref om), (2, .int (nI vl))]) hx hb dX7_meetings_51 hl (k := 3) rfl (inc1 _) (by decide) rfl (fun ls hl => ?_)
                refine lv_goto (tgt := 14) hx hb dX7_meetings_54 (by decide) ?_
                replace hl := lv_eq 1 hl rfl (v2 := .int (nI (fcN (fcL μ) (mtC μ) vl + fc1 (mtC μ) vl (vf + 1)))) (congrArg (fun z => Value.int (nI z)) (show ((fcN (fcL μ) (mtC μ) vl + fc1 (mtC μ) vl vf) + 1) = (fcN (fcL μ) (mtC μ) vl + fc1 (mtC μ) vl (vf + 1)) from by rw [← fc1_yes (show mtC μ vl vf = true from by show (!decide _) = _; rw [decide_eq_false c_41]; rfl)]; omega))
                exact ih14 (vf + 1) (by omega) (by omega) ls (lv_sub hl [2, 1, 3, 0] rfl)
        replace hl := lv_eq 2 hl rfl (v2 := .int (nI (fcN (fcL μ) (mtC μ) vl + fc1 (mtC μ) vl 0))) (congrArg (fun z => Value.int (nI z)) (show (fcN (fcL μ) (mtC μ) vl) = (fcN (fcL μ) (mtC μ) vl + fc1 (mtC μ) vl 0) from rfl))
        exact L14 ((fcL μ vl - 0) + 1) 0 (Nat.zero_le _) (Nat.lt_succ_self _) ls (lv_sub hl [1, 2, 3, 0] rfl)
  replace hl := lv_eq 1 hl rfl (v2 := .int (nI (fcN (fcL μ) (mtC μ) 0))) (congrArg (fun z => Value.int (nI z)) (show 0 = (fcN (fcL μ) (mtC μ) 0) from rfl))
  exact L4 ((μ.1 19 - 0) + 1) 0 (Nat.zero_le _) (Nat.lt_succ_self _) ls (lv_sub hl [2, 1, 0] rfl)
