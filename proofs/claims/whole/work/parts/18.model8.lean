
/-! walks: the reference's FORMULAS -/
def gtS (μ : Sx) (t b n s : Nat) : Sx := uS (uS (uS (uS μ 28 t) 25 b) 24 n) 27 s
theorem scr_tr {a b c : Sx} (h : scr a b) (h2 : scr b c) : scr a c := ⟨fun k hk => (h.1 k hk).trans (h2.1 k hk), fun k hk => (h.2 k hk).trans (h2.2 k hk)⟩
theorem scr_g (μ : Sx) (t b n s p d w : Nat) : scr (pq (gtS μ t b n s) p d w) μ :=
  scr_S (scr_S (scr_S (scr_S (scr_S (scr_S (scr_S (scr_rf _) (by decide)) (by decide)) (by decide)) (by decide)) (by decide)) (by decide)) (by decide)
theorem scr_uA {σ μ : Sx} (h : scr σ μ) (k i v : Nat) : scr (uA σ k i v) (uA μ k i v) := ⟨h.1, fun j hj => by
  show (if j = k then uN (σ.2.1 k) i v else σ.2.1 j) = (if j = k then uN (μ.2.1 k) i v else μ.2.1 j)
  by_cases e : j = k
  · subst e
    rw [if_pos rfl, if_pos rfl, h.2 j hj]
  · rw [if_neg e, if_neg e, h.2 j hj]⟩
theorem scr_uS {σ μ : Sx} (h : scr σ μ) (k v : Nat) : scr (uS σ k v) (uS μ k v) := ⟨fun j hj => by
  show (if j = k then v else σ.1 j) = (if j = k then v else μ.1 j)
  by_cases e : j = k
  · rw [if_pos e, if_pos e]
  · rw [if_neg e, if_neg e, h.1 j hj], h.2⟩
theorem pP_congr {μ ν : Sx} (hs : ∀ p, sgM μ p = sgM ν p) (ha : μ.1 27 = ν.1 27) : ∀ n m v p d w, pP μ n m v p d w = pP ν n m v p d w := by
  have ht : ∀ p w c, tkB μ p w c = tkB ν p w c := fun p w c => by unfold tkB; rw [hs]
  have hl : ∀ c, ltB μ c = ltB ν c := fun c => by unfold ltB; rw [ha]
  have hU : ∀ n, (∀ m v p d w, pP μ n m v p d w = pP ν n m v p d w) → ∀ v p d w, pP μ (n + 1) 2 v p d w = pP ν (n + 1) 2 v p d w := by
    intro n ih v p d w
    rw [pU_d, pU_d]
    simp only [ih, ht, hl, hs]
  intro n
  induction n with
  | zero => intro m v p d w; rfl
  | succ n ih =>
    intro m v p d w
    match m with
    | 0 =>
      show pP μ n 3 (pP μ n 1 false p d w).1 (pP μ n 1 false p d w).2.1 (pP μ n 1 false p d w).2.2.1 (pP μ n 1 false p d w).2.2.2 = pP ν n 3 (pP ν n 1 false p d w).1 (pP ν n 1 false p d w).2.1 (pP ν n 1 false p d w).2.2.1 (pP ν n 1 false p d w).2.2.2
      rw [ih, ih]
    | 1 =>
      show pP μ n 4 (pP μ n 2 false p d w).1 (pP μ n 2 false p d w).2.1 (pP μ n 2 false p d w).2.2.1 (pP μ n 2 false p d w).2.2.2 = pP ν n 4 (pP ν n 2 false p d w).1 (pP ν n 2 false p d w).2.1 (pP ν n 2 false p d w).2.2.1 (pP ν n 2 false p d w).2.2.2
      rw [ih, ih]
    | 2 => exact hU n ih v p d w
    | 3 =>
      cases h : tkB ν p w 124
      · rw [p3_f h, p3_f ((ht _ _ _).trans h)]
      · rw [p3_d h, p3_d ((ht _ _ _).trans h), ih, ih]
    | 4 =>
      cases h : tkB ν p w 38
      · rw [p4_f h, p4_f ((ht _ _ _).trans h)]
      · rw [p4_d h, p4_d ((ht _ _ _).trans h), ih, ih]
    | k + 5 => exact hU n ih v p d w
/-- how a FORMULA's text goes through; a formula's truth in a STATE; a tape's -/
abbrev trP (μ : Sx) (f s : Nat) : Bool × Nat × Nat × Nat := pP (gtS μ 6 (40 * f) (μ.2.1 6 f) s) 200 0 false 0 0 1
abbrev trB (μ : Sx) (f s : Nat) : Bool := (trP μ f s).1
abbrev tpP (μ : Sx) : Bool × Nat × Nat × Nat := pP (gtS μ 17 0 (μ.1 22) 0) 200 0 false 0 0 1
theorem trB_e {σ μ : Sx} (h : scr σ μ) (f s : Nat) : trB σ f s = trB μ f s := by
  have e5 := h.2 5 (by decide)
  have e6 := h.2 6 (by decide)
  unfold trB trP
  rw [e6]
  have h1 : ∀ p, sgM (gtS σ 6 (40 * f) (μ.2.1 6 f) s) p = sgM (gtS μ 6 (40 * f) (μ.2.1 6 f) s) p := by
    intro p
    show (if μ.2.1 6 f ≤ p then none else some (if (6 : Nat) = 17 then σ.2.1 21 (40 * f + p) else σ.2.1 5 (40 * f + p))) = (if μ.2.1 6 f ≤ p then none else some (if (6 : Nat) = 17 then μ.2.1 21 (40 * f + p) else μ.2.1 5 (40 * f + p)))
    rw [if_neg (show ¬ (6 : Nat) = 17 from by decide), if_neg (show ¬ (6 : Nat) = 17 from by decide), e5]
  rw [pP_congr h1 rfl]
/-- what holds of the FORMULAS, the tape -/
def MIf (μ : Sx) : Prop := μ.1 17 ≤ 20 ∧ ∀ f, f < μ.1 17 → μ.2.1 6 f ≤ 40 ∧ ∀ i, i < μ.2.1 6 f → μ.2.1 5 (40 * f + i) < 256
def MIt (μ : Sx) : Prop := μ.1 22 ≤ 40 ∧ ∀ i, i < μ.1 22 → μ.2.1 21 i < 256
theorem bo63 {P : Nat → Bool} {n : Nat} (h : n ≤ 32) : bo P n < 2 ^ 63 := Nat.lt_of_lt_of_le (bo_lt P n) (Nat.pow_le_pow_right (by decide) (by omega))
def fcS (μ : Sx) : Nat → Sx
  | 0 => μ
  | k + 1 => uA (fcS μ k) 5 (40 * (fcS μ k).1 17 + k) ((fcS μ k).2.1 21 k)
theorem fcS_1 (μ : Sx) (j : Nat) : ∀ k, (fcS μ k).1 j = μ.1 j
  | 0 => rfl
  | k + 1 => fcS_1 μ j k
theorem fcS_2 (μ : Sx) {j : Nat} (hj : ¬ j = 5) : ∀ k, (fcS μ k).2.1 j = μ.2.1 j
  | 0 => rfl
  | k + 1 => by
    show (if j = 5 then _ else (fcS μ k).2.1 j) = _
    rw [if_neg hj]
    exact fcS_2 μ hj k
theorem scr_fc {σ μ : Sx} (h : scr σ μ) : ∀ k, scr (fcS σ k) (fcS μ k)
  | 0 => h
  | k + 1 => by
    have q := scr_fc h k
    show scr (uA _ _ _ _) (uA _ _ _ _)
    rw [q.1 17 (by decide), q.2 21 (by decide)]
    exact scr_uA q _ _ _
def means_M (μ : Sx) (f m : Int32) : Int64 × Sx := if inI f (μ.1 17) then (if m < nI 0 then (lN 4000000000000000000 - (-4 : Int32).toInt64, rfM μ 4) else if nI 5 < m then (lN 4000000000000000000 - (-6 : Int32).toInt64, rfM μ 6) else (lN (bo (trB μ (cx f)) (1 <<< cx m)), μ)) else (lN 4000000000000000000 - (-1 : Int32).toInt64, rfM μ 1)
def does_M (μ : Sx) (p f : Int32) : Int32 × Sx := if inI p (μ.1 16) && inI f (μ.1 17) then (b2i (decide (ltM (clM μ (cx p)) (μ.2.1 3 (cx p)) = bo (trB μ (cx f)) (1 <<< μ.2.1 3 (cx p)))), μ) else (-1, rfM μ 1)
def misses_M (μ : Sx) (p f : Int32) : Int32 × Sx := if inI p (μ.1 16) && inI f (μ.1 17) then (oI (fnd (fun s => (ltM (clM μ (cx p)) (μ.2.1 3 (cx p)) ^^^ bo (trB μ (cx f)) (1 <<< μ.2.1 3 (cx p))).testBit s) (1 <<< μ.2.1 3 (cx p)) 0), μ) else (-1, rfM μ 1)
def formula_M (μ : Sx) : Int32 × Sx := if μ.1 17 = 20 then (-6, rfM μ 6) else if ¬ (tpP μ).2.2.2 = 0 ∧ (tpP μ).2.1 = μ.1 22 then (nI (μ.1 17), uS (uA (fcS (uS μ 22 0) (μ.1 22)) 6 (μ.1 17) (μ.1 22)) 17 (μ.1 17 + 1)) else ((-20) - nI (tpP μ).2.1, uS μ 22 0)

set_option maxHeartbeats 1000000 in
set_option maxRecDepth 100000 in
theorem c_X7_goesThrough_17 (l : Launch) (G : Gt) (om : Nat) (μ : Sx) (bs : Nat) (sn : Nat) (st : Nat) (vb : Bool) (p2 : Nat) (d2 : Nat) (w2 : Nat) (hPW : PW (gtS μ 17 bs sn st)) (hsn : sn ≤ 40) (hres : pP (gtS μ 17 bs sn st) 200 0 false 0 0 1 = (vb, p2, d2, w2)) : Ct l G yX7_goesThrough cX7_goesThrough 5 ((some .boolean)) 20 0 0 [.ref om, .ref (om + 17), .int (nI bs), .int (nI sn), .int (nI st)] (fun H => bk G om (mL G om μ) H) (some (.int (b2i vb))) (fun H => bk G om (mL G om (pq (gtS μ 17 bs sn st) p2 d2 w2)) H) (fun q => om ≤ q ∧ q < om + 20) := by
  refine ct_entry [(0, .ref om), (1, .ref (om + 17)), (2, .int (nI bs)), (3, .int (nI sn)), (4, .int (nI st))] (by decide) (Nat.le_of_ble_eq_true rfl) rfl ?_
  intro zp ze zs zm za zb zt zc Q S hK hPre hin hE ls hl
  have hx := S.1
  have hb := S.2.1
  have hM := hPre
  have hS : va_S (fun q => om ≤ q ∧ q < om + 20) zs.heap zs.heap [] := va_S.rf
  refine lv_aload_n hx hb dX7_goesThrough_0 rfl (lv_at hl 0 rfl) ?_
  refine lv_aload_n hx hb dX7_goesThrough_1 rfl (lv_at hl 1 rfl) ?_
  refine kp (C := RX7) (T := TX7) (N := 32) (ci := 5) (k := 28) (ty := .array .int) tyX7 tyX7_ok nmX7 S hK rfl inX7 (by decide) q_758 rfl dX7_goesThrough_2 rfl rfl rfl hM rfl (Nat.le_of_ble_eq_true rfl) (L1 := mL G om (uS μ 28 17)) rfl hS (by first | exact ⟨by omega, by omega⟩ | omega) (fun H locs hM hS hz hk => ?_)
  refine lv_aload_n hx hb dX7_goesThrough_5 rfl (lv_at hl 0 rfl) ?_
  refine lv_iload_n hx hb dX7_goesThrough_6 rfl (lv_at hl 2 rfl) ?_
  refine kp (C := RX7) (T := TX7) (N := 32) (ci := 5) (k := 25) (ty := .int) tyX7 tyX7_ok nmX7 S hK rfl inX7 (by decide) q_755 rfl dX7_goesThrough_7 rfl rfl rfl hM rfl (Nat.le_of_ble_eq_true rfl) (L1 := mL G om (uS (uS μ 28 17) 25 bs)) rfl hS (by first | exact ⟨by omega, by omega⟩ | omega) (fun H locs hM hS hz hk => ?_)
  refine lv_aload_n hx hb dX7_goesThrough_10 rfl (lv_at hl 0 rfl) ?_
  refine lv_iload_n hx hb dX7_goesThrough_11 rfl (lv_at hl 3 rfl) ?_
  refine kp (C := RX7) (T := TX7) (N := 32) (ci := 5) (k := 24) (ty := .int) tyX7 tyX7_ok nmX7 S hK rfl inX7 (by decide) q_754 rfl dX7_goesThrough_12 rfl rfl rfl hM rfl (Nat.le_of_ble_eq_true rfl) (L1 := mL G om (uS (uS (uS μ 28 17) 25 bs) 24 sn)) rfl hS (by first | exact ⟨by omega, by omega⟩ | omega) (fun H locs hM hS hz hk => ?_)
  refine lv_aload_n hx hb dX7_goesThrough_15 rfl (lv_at hl 0 rfl) ?_
  refine lv_iload hx hb dX7_goesThrough_16 (lv_at hl 4 rfl) ?_
  refine kp (C := RX7) (T := TX7) (N := 32) (ci := 5) (k := 27) (ty := .int) tyX7 tyX7_ok nmX7 S hK rfl inX7 (by decide) q_757 rfl dX7_goesThrough_18 rfl rfl rfl hM rfl (Nat.le_of_ble_eq_true rfl) (L1 := mL G om (uS (uS (uS (uS μ 28 17) 25 bs) 24 sn) 27 st)) rfl hS (by first | exact ⟨by omega, by omega⟩ | omega) (fun H locs hM hS hz hk => ?_)
  refine lv_aload_n hx hb dX7_goesThrough_21 rfl (lv_at hl 0 rfl) ?_
  refine lv_iconst (v := nI 0) hx hb dX7_goesThrough_22 (by decide) ?_
  refine kp (C := RX7) (T := TX7) (N := 32) (ci := 5) (k := 23) (ty := .int) tyX7 tyX7_ok nmX7 S hK rfl inX7 (by decide) q_753 rfl dX7_goesThrough_23 rfl rfl rfl hM rfl (Nat.le_of_ble_eq_true rfl) (L1 := mL G om (uS (uS (uS (uS (uS μ 28 17) 25 bs) 24 sn) 27 st) 23 0)) rfl hS (by first | exact ⟨by omega, by omega⟩ | omega) (fun H locs hM hS hz hk => ?_)
  refine lv_aload_n hx hb dX7_goesThrough_26 rfl (lv_at hl 0 rfl) ?_
  refine lv_iconst (v := nI 0) hx hb dX7_goesThrough_27 (by decide) ?_
  refine kp (C := RX7) (T := TX7) (N := 32) (ci := 5) (k := 26) (ty := .int) tyX7 tyX7_ok nmX7 S hK rfl inX7 (by decide) q_756 rfl dX7_goesThrough_28 rfl rfl rfl hM rfl (Nat.le_of_ble_eq_true rfl) (L1 := mL G om (uS (uS (uS (uS (uS (uS μ 28 17) 25 bs) 24 sn) 27 st) 23 0) 26 0)) rfl hS (by first | exact ⟨by omega, by omega⟩ | omega) (fun H locs hM hS hz hk => ?_)
  refine lv_aload_n hx hb dX7_goesThrough_31 rfl (lv_at hl 0 rfl) ?_
  refine lv_iconst (v := nI 1) hx hb dX7_goesThrough_32 (by decide) ?_
  refine kp (C := RX7) (T := TX7) (N := 32) (ci := 5) (k := 29) (ty := .boolean) tyX7 tyX7_ok nmX7 S hK rfl inX7 (by decide) q_759 rfl dX7_goesThrough_33 rfl rfl rfl hM rfl (Nat.le_of_ble_eq_true rfl) (L1 := mL G om (uS (uS (uS (uS (uS (uS (uS μ 28 17) 25 bs) 24 sn) 27 st) 23 0) 26 0) 29 1)) rfl hS (by first | exact ⟨by omega, by omega⟩ | omega) (fun H locs hM hS hz hk => ?_)
  refine lv_aload_n hx hb dX7_goesThrough_36 rfl (lv_at hl 0 rfl) ?_
  replace hM : bk G om (mL G om (pq (gtS μ 17 bs sn st) 0 0 1)) H := hM
  refine ctV (rest := []) S hK (c_X7_or l G om (gtS μ 17 bs sn st) 0 0 1 vb p2 d2 w2 200 (by first | assumption | omega | decide) (Nat.zero_le _) (by decide) (by decide) (by show 4 * (sn - 0) + 3 ≤ 200; omega) (by first | assumption | omega | decide)) cw_X7_175 rfl ⟨Nat.le_of_ble_eq_true rfl, Nat.le_of_ble_eq_true rfl⟩ ⟨Nat.le_of_ble_eq_true rfl, Nat.le_of_ble_eq_true rfl⟩ (bk.recv hK hM rfl rfl) hl.1 rfl (Nat.le_of_ble_eq_true rfl) dX7_goesThrough_37 hM hS (fun _ h => h) (fun H locs hPost hz hk hS => ?_)
  have hM := hPost
  exact hE _ _ _ _ _ _ (kr_z dX7_goesThrough_40) hS (by decide) (by decide) hM

set_option maxHeartbeats 1000000 in
set_option maxRecDepth 100000 in
theorem c_X7_goesThrough_6 (l : Launch) (G : Gt) (om : Nat) (μ : Sx) (bs : Nat) (sn : Nat) (st : Nat) (vb : Bool) (p2 : Nat) (d2 : Nat) (w2 : Nat) (hPW : PW (gtS μ 6 bs sn st)) (hsn : sn ≤ 40) (hres : pP (gtS μ 6 bs sn st) 200 0 false 0 0 1 = (vb, p2, d2, w2)) : Ct l G yX7_goesThrough cX7_goesThrough 5 ((some .boolean)) 20 0 0 [.ref om, .ref (om + 6), .int (nI bs), .int (nI sn), .int (nI st)] (fun H => bk G om (mL G om μ) H) (some (.int (b2i vb))) (fun H => bk G om (mL G om (pq (gtS μ 6 bs sn st) p2 d2 w2)) H) (fun q => om ≤ q ∧ q < om + 20) := by
  refine ct_entry [(0, .ref om), (1, .ref (om + 6)), (2, .int (nI bs)), (3, .int (nI sn)), (4, .int (nI st))] (by decide) (Nat.le_of_ble_eq_true rfl) rfl ?_
  intro zp ze zs zm za zb zt zc Q S hK hPre hin hE ls hl
  have hx := S.1
  have hb := S.2.1
  have hM := hPre
  have hS : va_S (fun q => om ≤ q ∧ q < om + 20) zs.heap zs.heap [] := va_S.rf
  refine lv_aload_n hx hb dX7_goesThrough_0 rfl (lv_at hl 0 rfl) ?_
  refine lv_aload_n hx hb dX7_goesThrough_1 rfl (lv_at hl 1 rfl) ?_
  refine kp (C := RX7) (T := TX7) (N := 32) (ci := 5) (k := 28) (ty := .array .int) tyX7 tyX7_ok nmX7 S hK rfl inX7 (by decide) q_758 rfl dX7_goesThrough_2 rfl rfl rfl hM rfl (Nat.le_of_ble_eq_true rfl) (L1 := mL G om (uS μ 28 6)) rfl hS (by first | exact ⟨by omega, by omega⟩ | omega) (fun H locs hM hS hz hk => ?_)
  refine lv_aload_n hx hb dX7_goesThrough_5 rfl (lv_at hl 0 rfl) ?_
  refine lv_iload_n hx hb dX7_goesThrough_6 rfl (lv_at hl 2 rfl) ?_
  refine kp (C := RX7) (T := TX7) (N := 32) (ci := 5) (k := 25) (ty := .int) tyX7 tyX7_ok nmX7 S hK rfl inX7 (by decide) q_755 rfl dX7_goesThrough_7 rfl rfl rfl hM rfl (Nat.le_of_ble_eq_true rfl) (L1 := mL G om (uS (uS μ 28 6) 25 bs)) rfl hS (by first | exact ⟨by omega, by omega⟩ | omega) (fun H locs hM hS hz hk => ?_)
  refine lv_aload_n hx hb dX7_goesThrough_10 rfl (lv_at hl 0 rfl) ?_
  refine lv_iload_n hx hb dX7_goesThrough_11 rfl (lv_at hl 3 rfl) ?_
  refine kp (C := RX7) (T := TX7) (N := 32) (ci := 5) (k := 24) (ty := .int) tyX7 tyX7_ok nmX7 S hK rfl inX7 (by decide) q_754 rfl dX7_goesThrough_12 rfl rfl rfl hM rfl (Nat.le_of_ble_eq_true rfl) (L1 := mL G om (uS (uS (uS μ 28 6) 25 bs) 24 sn)) rfl hS (by first | exact ⟨by omega, by omega⟩ | omega) (fun H locs hM hS hz hk => ?_)
  refine lv_aload_n hx hb dX7_goesThrough_15 rfl (lv_at hl 0 rfl) ?_
  refine lv_iload hx hb dX7_goesThrough_16 (lv_at hl 4 rfl) ?_
  refine kp (C := RX7) (T := TX7) (N := 32) (ci := 5) (k := 27) (ty := .int) tyX7 tyX7_ok nmX7 S hK rfl inX7 (by decide) q_757 rfl dX7_goesThrough_18 rfl rfl rfl hM rfl (Nat.le_of_ble_eq_true rfl) (L1 := mL G om (uS (uS (uS (uS μ 28 6) 25 bs) 24 sn) 27 st)) rfl hS (by first | exact ⟨by omega, by omega⟩ | omega) (fun H locs hM hS hz hk => ?_)
  refine lv_aload_n hx hb dX7_goesThrough_21 rfl (lv_at hl 0 rfl) ?_
  refine lv_iconst (v := nI 0) hx hb dX7_goesThrough_22 (by decide) ?_
  refine kp (C := RX7) (T := TX7) (N := 32) (ci := 5) (k := 23) (ty := .int) tyX7 tyX7_ok nmX7 S hK rfl inX7 (by decide) q_753 rfl dX7_goesThrough_23 rfl rfl rfl hM rfl (Nat.le_of_ble_eq_true rfl) (L1 := mL G om (uS (uS (uS (uS (uS μ 28 6) 25 bs) 24 sn) 27 st) 23 0)) rfl hS (by first | exact ⟨by omega, by omega⟩ | omega) (fun H locs hM hS hz hk => ?_)
  refine lv_aload_n hx hb dX7_goesThrough_26 rfl (lv_at hl 0 rfl) ?_
  refine lv_iconst (v := nI 0) hx hb dX7_goesThrough_27 (by decide) ?_
  refine kp (C := RX7) (T := TX7) (N := 32) (ci := 5) (k := 26) (ty := .int) tyX7 tyX7_ok nmX7 S hK rfl inX7 (by decide) q_756 rfl dX7_goesThrough_28 rfl rfl rfl hM rfl (Nat.le_of_ble_eq_true rfl) (L1 := mL G om (uS (uS (uS (uS (uS (uS μ 28 6) 25 bs) 24 sn) 27 st) 23 0) 26 0)) rfl hS (by first | exact ⟨by omega, by omega⟩ | omega) (fun H locs hM hS hz hk => ?_)
  refine lv_aload_n hx hb dX7_goesThrough_31 rfl (lv_at hl 0 rfl) ?_
  refine lv_iconst (v := nI 1) hx hb dX7_goesThrough_32 (by decide) ?_
  refine kp (C := RX7) (T := TX7) (N := 32) (ci := 5) (k := 29) (ty := .boolean) tyX7 tyX7_ok nmX7 S hK rfl inX7 (by decide) q_759 rfl dX7_goesThrough_33 rfl rfl rfl hM rfl (Nat.le_of_ble_eq_true rfl) (L1 := mL G om (uS (uS (uS (uS (uS (uS (uS μ 28 6) 25 bs) 24 sn) 27 st) 23 0) 26 0) 29 1)) rfl hS (by first | exact ⟨by omega, by omega⟩ | omega) (fun H locs hM hS hz hk => ?_)
  refine lv_aload_n hx hb dX7_goesThrough_36 rfl (lv_at hl 0 rfl) ?_
  replace hM : bk G om (mL G om (pq (gtS μ 6 bs sn st) 0 0 1)) H := hM
  refine ctV (rest := []) S hK (c_X7_or l G om (gtS μ 6 bs sn st) 0 0 1 vb p2 d2 w2 200 (by first | assumption | omega | decide) (Nat.zero_le _) (by decide) (by decide) (by show 4 * (sn - 0) + 3 ≤ 200; omega) (by first | assumption | omega | decide)) cw_X7_175 rfl ⟨Nat.le_of_ble_eq_true rfl, Nat.le_of_ble_eq_true rfl⟩ ⟨Nat.le_of_ble_eq_true rfl, Nat.le_of_ble_eq_true rfl⟩ (bk.recv hK hM rfl rfl) hl.1 rfl (Nat.le_of_ble_eq_true rfl) dX7_goesThrough_37 hM hS (fun _ h => h) (fun H locs hPost hz hk hS => ?_)
  have hM := hPost
  exact hE _ _ _ _ _ _ (kr_z dX7_goesThrough_40) hS (by decide) (by decide) hM

set_option maxHeartbeats 1000000 in
set_option maxRecDepth 100000 in
theorem c_X7_isTrue (l : Launch) (G : Gt) (om : Nat) (μ : Sx) (f : Nat) (s : Nat) (hf : f < 20) (hs : s < 2 ^ 31) (h6 : μ.2.1 6 f ≤ 40) (hby : ∀ i, i < μ.2.1 6 f → μ.2.1 5 (40 * f + i) < 256) : Ct l G yX7_isTrue cX7_isTrue 3 ((some .boolean)) 21 0 0 [.ref om, .int (nI f), .int (nI s)] (fun H => bk G om (mL G om μ) H) (some (.int (b2i (trB μ f s)))) (fun H => ∃ σ : Sx, bk G om (mL G om σ) H ∧ scr σ μ ∧ σ.2.1 = μ.2.1) (fun q => om ≤ q ∧ q < om + 20) := by
  refine ct_entry [(0, .ref om), (1, .int (nI f)), (2, .int (nI s))] (by decide) (Nat.le_of_ble_eq_true rfl) rfl ?_
  intro zp ze zs zm za zb zt zc Q S hK hPre hin hE ls hl
  have hx := S.1
  have hb := S.2.1
  have hM := hPre
  have hS : va_S (fun q => om ≤ q ∧ q < om + 20) zs.heap zs.heap [] := va_S.rf
  refine lv_aload_n hx hb dX7_isTrue_0 rfl (lv_at hl 0 rfl) ?_
  refine lv_aload_n hx hb dX7_isTrue_1 rfl (lv_at hl 0 rfl) ?_
  refine kg (C := RX7) (T := TX7) (N := 32) (ci := 5) (k := 5) (v := .ref (om + 6)) S hK rfl inX7 (by decide) q_735 dX7_isTrue_2 hM rfl rfl ?_
  refine lv_bipush (v := nI 40) hx hb dX7_isTrue_5 (by decide) ?_
  refine lv_iload_n hx hb dX7_isTrue_7 rfl (lv_at hl 1 rfl) ?_
  refine n_imul hx hb dX7_isTrue_8 ?_
  refine lv_aload_n hx hb dX7_isTrue_9 rfl (lv_at hl 0 rfl) ?_
  refine kg (C := RX7) (T := TX7) (N := 32) (ci := 5) (k := 6) (v := .ref (om + 7)) S hK rfl inX7 (by decide) q_736 dX7_isTrue_10 hM rfl rfl ?_
  refine lv_iload_n hx hb dX7_isTrue_13 rfl (lv_at hl 1 rfl) ?_
  refine kil (f := μ.2.1 6) S hK dX7_isTrue_14 7 hM rfl (by decide) rfl (by omega) ?_
  refine lv_iload_n hx hb dX7_isTrue_15 rfl (lv_at hl 2 rfl) ?_
  rcases hq : trP μ f s with ⟨vb1, p1, d1, w1⟩
  refine ctV (rest := []) S hK (c_X7_goesThrough_6 l G om μ (40 * f) (μ.2.1 6 f) s vb1 p1 d1 w1 ⟨Or.inr ⟨rfl, (by show 40 * f + μ.2.1 6 f ≤ 800; omega)⟩, hby, h6, hs⟩ (by first | assumption | omega | decide) hq) cw_X7_184 rfl ⟨Nat.le_of_ble_eq_true rfl, Nat.le_of_ble_eq_true rfl⟩ ⟨Nat.le_of_ble_eq_true rfl, Nat.le_of_ble_eq_true rfl⟩ (bk.recv hK hM rfl rfl) hl.1 rfl (Nat.le_of_ble_eq_true rfl) dX7_isTrue_16 hM hS (fun _ h => h) (fun H locs hPost hz hk hS => ?_)
  have hM := hPost
  refine w_top (v' := .int (b2i (trB μ f s))) (congrArg (fun z => Value.int (b2i z)) (show vb1 = (trB μ f s) from (by unfold trB; rw [hq]))) ?_
  exact hE _ _ _ _ _ _ (kr_z dX7_isTrue_19) hS (by decide) (by decide) ⟨(pq (gtS μ 6 (40 * f) (μ.2.1 6 f) s) p1 d1 w1), hM, ⟨scr_g _ _ _ _ _ _ _ _, rfl⟩⟩

set_option maxHeartbeats 1000000 in
set_option maxRecDepth 100000 in
theorem c_X7_meansOf (l : Launch) (G : Gt) (om : Nat) (μ : Sx) (f : Nat) (many : Nat) (hf : f < 20) (hm5 : many ≤ 5) (h6 : μ.2.1 6 f ≤ 40) (hby : ∀ i, i < μ.2.1 6 f → μ.2.1 5 (40 * f + i) < 256) : Ct l G yX7_meansOf cX7_meansOf 6 ((some .long)) 22 0 0 [.ref om, .int (nI f), .int (nI many)] (fun H => bk G om (mL G om μ) H) (some (.long (lN (bo (trB μ f) (1 <<< many))))) (fun H => ∃ σ : Sx, bk G om (mL G om σ) H ∧ scr σ μ) (fun q => om ≤ q ∧ q < om + 20) := by
  refine ct_entry [(0, .ref om), (1, .int (nI f)), (2, .int (nI many))] (by decide) (Nat.le_of_ble_eq_true rfl) rfl ?_
  intro zp ze zs zm za zb zt zc Q S hK hPre hin hE ls hl
  have hx := S.1
  have hb := S.2.1
  have hM := hPre
  have hS : va_S (fun q => om ≤ q ∧ q < om + 20) zs.heap zs.heap [] := va_S.rf
  have hsh := shl_le hm5
  refine lv_lconst (v := lN 0) hx hb dX7_meansOf_0 (by decide) ?_
  refine lv_lstore_n (lv' := [(3, .long (lN 0)), (0, .ref om), (1, .int (nI f)), (2, .int (nI many))]) hx hb dX7_meansOf_1 rfl hl (by decide) rfl (fun ls hl => ?_)
  refine lv_iconst (v := nI 0) hx hb dX7_meansOf_2 (by decide) ?_
  refine lv_istore (lv' := [(5, .int (nI 0)), (3, .long (lN 0)), (0, .ref om), (1, .int (nI f)), (2, .int (nI many))]) hx hb dX7_meansOf_3 hl (by decide) rfl (fun ls hl => ?_)
  have L5 : ∀ (fu : Nat), ∀ (vs : Nat) (σ : Sx), (vs ≤ 1 <<< many) → (scr σ μ) → 1 <<< many - vs < fu → ∀ (H : Heap) (locs : List Loc), bk G om (mL G om σ) H → va_S (fun q => om ≤ q ∧ q < om + 20) zs.heap H locs → ∀ ls : Array Slot, lv_has ls 6 [(0, .ref om), (1, .int (nI f)), (2, .int (nI many)), (3, .long (lN (bo (trB μ f) vs))), (5, .int (nI vs))] → W zp l ze (rL 22 0 0) zs zm za zb zt zc H locs 0 0 Q (F0 zm 5 ls []) := by
    intro fu
    induction fu with
    | zero =>
      intro vs σ hvs hσ hmu H locs hM hS ls hl
      exact absurd hmu (Nat.not_lt_zero _)
    | succ fu ih5 =>
      intro vs σ hvs hσ hmu H locs hM hS ls hl
      refine lv_iload hx hb dX7_meansOf_5 (lv_at hl 4 rfl) ?_
      refine lv_iconst (v := nI 1) hx hb dX7_meansOf_7 (by decide) ?_
      refine lv_iload_n hx hb dX7_meansOf_8 rfl (lv_at hl 2 rfl) ?_
      refine n_ishl hx hb dX7_meansOf_9 (by omega) ?_
      refine n_icmp_ge (tgt := 40) hx hb dX7_meansOf_10 (by decide) (by omega) (by omega) (fun c_10 => ?_) (fun c_10 => ?_)
      ·
        have hr : bo (trB μ f) vs = bo (trB μ f) (1 <<< many) := by rw [show vs = 1 <<< many from by omega]
        refine lv_lload_n hx hb dX7_meansOf_40 rfl (lv_at hl 3 rfl) ?_
        refine w_top (v' := .long (lN (bo (trB μ f) (1 <<< many)))) (congrArg (fun z => Value.long (lN z)) (show (bo (trB μ f) vs) = (bo (trB μ f) (1 <<< many)) from hr)) ?_
        exact hE _ _ _ _ _ _ (kr_l dX7_meansOf_41) hS (by decide) (by decide) ⟨σ, hM, hσ⟩
      ·
        refine lv_lload_n hx hb dX7_meansOf_13 rfl (lv_at hl 3 rfl) ?_
        refine lv_aload_n hx hb dX7_meansOf_14 rfl (lv_at hl 0 rfl) ?_
        refine lv_iload_n hx hb dX7_meansOf_15 rfl (lv_at hl 1 rfl) ?_
        refine lv_iload hx hb dX7_meansOf_16 (lv_at hl 4 rfl) ?_
        refine ctV (rest := [.long (lN (bo (trB μ f) vs))]) S hK (c_X7_isTrue l G om σ f vs (by first | assumption | omega | decide) (by first | assumption | omega | decide) (by rw [hσ.2 6 (by decide)]; exact h6) (by rw [hσ.2 6 (by decide), hσ.2 5 (by decide)]; exact hby)) cw_X7_188 rfl ⟨Nat.le_of_ble_eq_true rfl, Nat.le_of_ble_eq_true rfl⟩ ⟨Nat.le_of_ble_eq_true rfl, Nat.le_of_ble_eq_true rfl⟩ (bk.recv hK hM rfl rfl) hl.1 rfl (Nat.le_of_ble_eq_true rfl) dX7_meansOf_18 hM hS (fun _ h => h) (fun H locs hPost hz hk hS => ?_)
        obtain ⟨g18, hM, hq18⟩ := hPost
        refine w_top (v' := .int (b2i (trB μ f vs))) (congrArg (fun z => Value.int (b2i z)) (trB_e hσ f vs)) ?_
        refine z_if_eq (tgt := 31) hx hb dX7_meansOf_21 (by decide) (fun c_21 => ?_) (fun c_21 => ?_)
        ·
          have e2 := bo_or0 (P := trB μ f) (n := vs) c_21
          refine lv_lconst (v := lN 0) hx hb dX7_meansOf_31 (by decide) ?_
          refine n_lor hx hb dX7_meansOf_32 ?_
          refine lv_lstore_n (lv' := [(3, .long (lN ((bo (trB μ f) vs) ||| 0))), (0, .ref om), (1, .int (nI f)), (2, .int (nI many)), (5, .int (nI vs))]) hx hb dX7_meansOf_33 rfl hl (by decide) rfl (fun ls hl => ?_)
          refine lv_iinc (v := nI (vs + 1)) (lv' := [(5, .int (nI (vs + 1))), (3, .long (lN ((bo (trB μ f) vs) ||| 0))), (0, .ref om), (1, .int (nI f)), (2, .int (nI many))]) hx hb dX7_meansOf_34 hl (k := 4) rfl (inc1 _) (by decide) rfl (fun ls hl => ?_)
          refine lv_goto (tgt := 5) hx hb dX7_meansOf_37 (by decide) ?_
          replace hl := lv_eq 1 hl rfl (v2 := .long (lN (bo (trB μ f) (vs + 1)))) (congrArg (fun z => Value.long (lN z)) (show ((bo (trB μ f) vs) ||| 0) = (bo (trB μ f) (vs + 1)) from e2))
          exact ih5 (vs + 1) g18 (by first | assumption | omega) (scr_tr hq18.1 hσ) (by omega) _ _ hM hS ls (lv_sub hl [2, 3, 4, 1, 0] rfl)
        ·
          have e2 := bo_or1 (P := trB μ f) (n := vs) c_21
          refine lv_lconst (v := lN 1) hx hb dX7_meansOf_24 (by decide) ?_
          refine lv_iload hx hb dX7_meansOf_25 (lv_at hl 4 rfl) ?_
          refine n_lshl hx hb dX7_meansOf_27 (by omega) ?_
          refine lv_goto (tgt := 32) hx hb dX7_meansOf_28 (by decide) ?_
          refine n_lor hx hb dX7_meansOf_32 ?_
          refine lv_lstore_n (lv' := [(3, .long (lN ((bo (trB μ f) vs) ||| (1 <<< vs)))), (0, .ref om), (1, .int (nI f)), (2, .int (nI many)), (5, .int (nI vs))]) hx hb dX7_meansOf_33 rfl hl (by decide) rfl (fun ls hl => ?_)
          refine lv_iinc (v := nI (vs + 1)) (lv' := [(5, .int (nI (vs + 1))), (3, .long (lN ((bo (trB μ f) vs) ||| (1 <<< vs)))), (0, .ref om), (1, .int (nI f)), (2, .int (nI many))]) hx hb dX7_meansOf_34 hl (k := 4) rfl (inc1 _) (by decide) rfl (fun ls hl => ?_)
          refine lv_goto (tgt := 5) hx hb dX7_meansOf_37 (by decide) ?_
          replace hl := lv_eq 1 hl rfl (v2 := .long (lN (bo (trB μ f) (vs + 1)))) (congrArg (fun z => Value.long (lN z)) (show ((bo (trB μ f) vs) ||| (1 <<< vs)) = (bo (trB μ f) (vs + 1)) from e2))
          exact ih5 (vs + 1) g18 (by first | assumption | omega) (scr_tr hq18.1 hσ) (by omega) _ _ hM hS ls (lv_sub hl [2, 3, 4, 1, 0] rfl)
  replace hl := lv_eq 1 hl rfl (v2 := .long (lN (bo (trB μ f) 0))) (congrArg (fun z => Value.long (lN z)) (show 0 = (bo (trB μ f) 0) from by first | rfl | omega))
  exact L5 ((1 <<< many - 0) + 1) 0 μ (Nat.zero_le _) (scr_rf _) (Nat.lt_succ_self _) _ _ hM hS ls (lv_sub hl [2, 3, 4, 1, 0] rfl)

set_option maxHeartbeats 1000000 in
set_option maxRecDepth 100000 in
theorem c_X7_means (l : Launch) (G : Gt) (om : Nat) (μ : Sx) (f : Int32) (m : Int32) (hIf : MIf μ) : Ct l G yX7_means cX7_means 4 ((some .long)) 23 0 0 [.ref om, .int f, .int m] (fun H => bk G om (mL G om μ) H) (some (.long ((means_M μ f m).1))) (fun H => ∃ σ : Sx, bk G om (mL G om σ) H ∧ scr σ (means_M μ f m).2) (fun q => om ≤ q ∧ q < om + 20) := by
  refine ct_entry [(0, .ref om), (1, .int f), (2, .int m)] (by decide) (Nat.le_of_ble_eq_true rfl) rfl ?_
  intro zp ze zs zm za zb zt zc Q S hK hPre hin hE ls hl
  have hx := S.1
  have hb := S.2.1
  have hM := hPre
  have hS : va_S (fun q => om ≤ q ∧ q < om + 20) zs.heap zs.heap [] := va_S.rf
  have hf20 := hIf.1
  refine lv_aload_n hx hb dX7_means_0 rfl (lv_at hl 0 rfl) ?_
  refine lv_iload_n hx hb dX7_means_1 rfl (lv_at hl 1 rfl) ?_
  refine crV (rest := []) S hK (c_X7_isFormula l G om μ f (by first | assumption | omega | decide)) cw_X7_191 rfl ⟨Nat.le_of_ble_eq_true rfl, Nat.le_of_ble_eq_true rfl⟩ ⟨Nat.le_of_ble_eq_true rfl, Nat.le_of_ble_eq_true rfl⟩ (bk.recv hK hM rfl rfl) hl.1 rfl (Nat.le_of_ble_eq_true rfl) dX7_means_2 hM ?_
  refine z_if_eq (tgt := 17) hx hb dX7_means_5 (by decide) (fun c_5 => ?_) (fun c_5 => ?_)
  ·
    refine lv_iconst (v := (-1)) hx hb dX7_means_17 (by decide) ?_
    refine lv_istore_n (lv' := [(3, .int (-1)), (0, .ref om), (1, .int f), (2, .int m)]) hx hb dX7_means_18 rfl hl (by decide) rfl (fun ls hl => ?_)
    refine lv_iload_n hx hb dX7_means_19 rfl (lv_at hl 0 rfl) ?_
    refine lv_if_eq (tgt := 31) hx hb dX7_means_20 (by decide) (fun c_20 => ?_) (fun c_20 => ?_)
    ·
      exact absurd c_20 (by decide)
    ·
      refine lv_aload_n hx hb dX7_means_23 rfl (lv_at hl 1 rfl) ?_
      refine lv_iload_n hx hb dX7_means_24 rfl (lv_at hl 0 rfl) ?_
      refine ctV (rest := []) S hK (c_X7_refuseFar l G om μ (-1) 1 (by first | assumption | omega | decide) (by first | assumption | omega | decide)) cw_X7_142 rfl ⟨Nat.le_of_ble_eq_true rfl, Nat.le_of_ble_eq_true rfl⟩ ⟨Nat.le_of_ble_eq_true rfl, Nat.le_of_ble_eq_true rfl⟩ (bk.recv hK hM rfl rfl) hl.1 rfl (Nat.le_of_ble_eq_true rfl) dX7_means_25 hM hS (fun _ h => h) (fun H locs hPost hz hk hS => ?_)
      have hM := hPost
      refine lv_goto (tgt := 37) hx hb dX7_means_28 (by decide) ?_
      have hr : means_M μ f m = ((lN 4000000000000000000 - (-1).toInt64), uA μ 0 1 (μ.2.1 0 1 + 1)) := by unfold means_M; simp [c_5, c_20]
      refine w_top (v' := .long ((means_M μ f m).1)) (congrArg (fun z => Value.long z) (congrArg Prod.fst hr).symm) ?_
      exact hE _ _ _ _ _ _ (kr_l dX7_means_37) hS (by decide) (by decide) ⟨(uA μ 0 1 (μ.2.1 0 1 + 1)), hM, (by rw [hr]; exact (scr_rf _))⟩
  ·
    obtain ⟨vf, hvf, rfl⟩ := inI_x c_5
    have hcf := cx_n (j := vf) (by omega)
    obtain ⟨h6, hby⟩ := hIf.2 vf hvf
    refine lv_iload_n hx hb dX7_means_8 rfl (lv_at hl 2 rfl) ?_
    refine lv_iconst (v := nI 0) hx hb dX7_means_9 (by decide) ?_
    refine lv_iconst (v := nI 5) hx hb dX7_means_10 (by decide) ?_
    rcases wth3 m (b := 5) (by decide) with hlo | ⟨hlo, hhi⟩ | ⟨vj, hvj, rfl⟩
    ·
      refine crS (rest := []) S hK (c_X7_within_lo l G m 0 5 (by first | assumption | omega | decide)) cw_X7_194 rfl ⟨Nat.le_of_ble_eq_true rfl, Nat.le_of_ble_eq_true rfl⟩ ⟨Nat.le_of_ble_eq_true rfl, Nat.le_of_ble_eq_true rfl⟩ hl.1 rfl (Nat.le_of_ble_eq_true rfl) dX7_means_11 trivial ?_
      refine lv_goto (tgt := 18) hx hb dX7_means_14 (by decide) ?_
      refine lv_istore_n (lv' := [(3, .int (-4)), (0, .ref om), (1, .int (nI vf)), (2, .int m)]) hx hb dX7_means_18 rfl hl (by decide) rfl (fun ls hl => ?_)
      refine lv_iload_n hx hb dX7_means_19 rfl (lv_at hl 0 rfl) ?_
      refine lv_if_eq (tgt := 31) hx hb dX7_means_20 (by decide) (fun c_20 => ?_) (fun c_20 => ?_)
      ·
        exact absurd c_20 (by decide)
      ·
        refine lv_aload_n hx hb dX7_means_23 rfl (lv_at hl 1 rfl) ?_
        refine lv_iload_n hx hb dX7_means_24 rfl (lv_at hl 0 rfl) ?_
        refine ctV (rest := []) S hK (c_X7_refuseFar l G om μ (-4) 4 (by first | assumption | omega | decide) (by first | assumption | omega | decide)) cw_X7_142 rfl ⟨Nat.le_of_ble_eq_true rfl, Nat.le_of_ble_eq_true rfl⟩ ⟨Nat.le_of_ble_eq_true rfl, Nat.le_of_ble_eq_true rfl⟩ (bk.recv hK hM rfl rfl) hl.1 rfl (Nat.le_of_ble_eq_true rfl) dX7_means_25 hM hS (fun _ h => h) (fun H locs hPost hz hk hS => ?_)
        have hM := hPost
        refine lv_goto (tgt := 37) hx hb dX7_means_28 (by decide) ?_
        have hr : means_M μ (nI vf) m = ((lN 4000000000000000000 - (-4).toInt64), uA μ 0 4 (μ.2.1 0 4 + 1)) := by unfold means_M; simp [c_5, hcf, hlo, c_20]
        refine w_top (v' := .long ((means_M μ (nI vf) m).1)) (congrArg (fun z => Value.long z) (congrArg Prod.fst hr).symm) ?_
        exact hE _ _ _ _ _ _ (kr_l dX7_means_37) hS (by decide) (by decide) ⟨(uA μ 0 4 (μ.2.1 0 4 + 1)), hM, (by rw [hr]; exact (scr_rf _))⟩
    ·
      refine crS (rest := []) S hK (c_X7_within_hi l G m 0 5 (by first | assumption | omega | decide) (by first | assumption | omega | decide)) cw_X7_194 rfl ⟨Nat.le_of_ble_eq_true rfl, Nat.le_of_ble_eq_true rfl⟩ ⟨Nat.le_of_ble_eq_true rfl, Nat.le_of_ble_eq_true rfl⟩ hl.1 rfl (Nat.le_of_ble_eq_true rfl) dX7_means_11 trivial ?_
      refine lv_goto (tgt := 18) hx hb dX7_means_14 (by decide) ?_
      refine lv_istore_n (lv' := [(3, .int (-6)), (0, .ref om), (1, .int (nI vf)), (2, .int m)]) hx hb dX7_means_18 rfl hl (by decide) rfl (fun ls hl => ?_)
      refine lv_iload_n hx hb dX7_means_19 rfl (lv_at hl 0 rfl) ?_
      refine lv_if_eq (tgt := 31) hx hb dX7_means_20 (by decide) (fun c_20 => ?_) (fun c_20 => ?_)
      ·
        exact absurd c_20 (by decide)
      ·
        refine lv_aload_n hx hb dX7_means_23 rfl (lv_at hl 1 rfl) ?_
        refine lv_iload_n hx hb dX7_means_24 rfl (lv_at hl 0 rfl) ?_
        refine ctV (rest := []) S hK (c_X7_refuseFar l G om μ (-6) 6 (by first | assumption | omega | decide) (by first | assumption | omega | decide)) cw_X7_142 rfl ⟨Nat.le_of_ble_eq_true rfl, Nat.le_of_ble_eq_true rfl⟩ ⟨Nat.le_of_ble_eq_true rfl, Nat.le_of_ble_eq_true rfl⟩ (bk.recv hK hM rfl rfl) hl.1 rfl (Nat.le_of_ble_eq_true rfl) dX7_means_25 hM hS (fun _ h => h) (fun H locs hPost hz hk hS => ?_)
        have hM := hPost
        refine lv_goto (tgt := 37) hx hb dX7_means_28 (by decide) ?_
        have hr : means_M μ (nI vf) m = ((lN 4000000000000000000 - (-6).toInt64), uA μ 0 6 (μ.2.1 0 6 + 1)) := by unfold means_M; simp [c_5, hcf, hlo, hhi, c_20]
        refine w_top (v' := .long ((means_M μ (nI vf) m).1)) (congrArg (fun z => Value.long z) (congrArg Prod.fst hr).symm) ?_
        exact hE _ _ _ _ _ _ (kr_l dX7_means_37) hS (by decide) (by decide) ⟨(uA μ 0 6 (μ.2.1 0 6 + 1)), hM, (by rw [hr]; exact (scr_rf _))⟩
    ·
      have hcx := cx_n (j := vj) (by omega)
      have hlo : ¬ nI vj < nI 0 := fun q => by have := (nI_ltI (by omega) (by decide)).mp q; omega
      have hhi : ¬ nI 5 < nI vj := fun q => by have := (nI_ltI (by decide) (by omega)).mp q; omega
      refine crS (rest := []) S hK (c_X7_within_in l G vj 0 5 (by first | assumption | omega | decide) (by first | assumption | omega | decide) (by first | assumption | omega | decide)) cw_X7_194 rfl ⟨Nat.le_of_ble_eq_true rfl, Nat.le_of_ble_eq_true rfl⟩ ⟨Nat.le_of_ble_eq_true rfl, Nat.le_of_ble_eq_true rfl⟩ hl.1 rfl (Nat.le_of_ble_eq_true rfl) dX7_means_11 trivial ?_
      refine lv_goto (tgt := 18) hx hb dX7_means_14 (by decide) ?_
      refine lv_istore_n (lv' := [(3, .int (nI 0)), (0, .ref om), (1, .int (nI vf)), (2, .int (nI vj))]) hx hb dX7_means_18 rfl hl (by decide) rfl (fun ls hl => ?_)
      refine lv_iload_n hx hb dX7_means_19 rfl (lv_at hl 0 rfl) ?_
      refine n_if_eq (tgt := 31) hx hb dX7_means_20 (by decide) (by decide) (fun c_20 => ?_) (fun c_20 => ?_)
      ·
        refine lv_aload_n hx hb dX7_means_31 rfl (lv_at hl 1 rfl) ?_
        refine lv_iload_n hx hb dX7_means_32 rfl (lv_at hl 2 rfl) ?_
        refine lv_iload_n hx hb dX7_means_33 rfl (lv_at hl 3 rfl) ?_
        refine ctV (rest := []) S hK (c_X7_meansOf l G om μ vf vj (by first | assumption | omega | decide) (by first | assumption | omega | decide) (by first | assumption | omega | decide) (by first | assumption | omega | decide)) cw_X7_197 rfl ⟨Nat.le_of_ble_eq_true rfl, Nat.le_of_ble_eq_true rfl⟩ ⟨Nat.le_of_ble_eq_true rfl, Nat.le_of_ble_eq_true rfl⟩ (bk.recv hK hM rfl rfl) hl.1 rfl (Nat.le_of_ble_eq_true rfl) dX7_means_34 hM hS (fun _ h => h) (fun H locs hPost hz hk hS => ?_)
        obtain ⟨g34, hM, hq34⟩ := hPost
        have hr : means_M μ (nI vf) (nI vj) = (lN (bo (trB μ vf) (1 <<< vj)), μ) := by unfold means_M; rw [c_5, if_pos rfl, if_neg hlo, if_neg hhi, hcf, hcx]
        refine w_top (v' := .long ((means_M μ (nI vf) (nI vj)).1)) (show (.long (lN (bo (trB μ vf) (1 <<< vj))) : Value) = .long ((means_M μ (nI vf) (nI vj)).1) from (congrArg (fun z => Value.long z) (congrArg Prod.fst hr).symm)) ?_
        exact hE _ _ _ _ _ _ (kr_l dX7_means_37) hS (by decide) (by decide) ⟨g34, hM, (by rw [hr]; exact hq34)⟩
      ·
        exact absurd c_20 (by decide)

set_option maxHeartbeats 1000000 in
set_option maxRecDepth 100000 in
theorem c_X7_does (l : Launch) (G : Gt) (om : Nat) (μ : Sx) (p : Int32) (f : Int32) (h0 : MI0 μ) (hIf : MIf μ) : Ct l G yX7_does cX7_does 3 ((some .int)) 24 0 0 [.ref om, .int p, .int f] (fun H => bk G om (mL G om μ) H) (some (.int ((does_M μ p f).1))) (fun H => ∃ σ : Sx, bk G om (mL G om σ) H ∧ scr σ (does_M μ p f).2) (fun q => om ≤ q ∧ q < om + 20) := by
  refine ct_entry [(0, .ref om), (1, .int p), (2, .int f)] (by decide) (Nat.le_of_ble_eq_true rfl) rfl ?_
  intro zp ze zs zm za zb zt zc Q S hK hPre hin hE ls hl
  have hx := S.1
  have hb := S.2.1
  have hM := hPre
  have hS : va_S (fun q => om ≤ q ∧ q < om + 20) zs.heap zs.heap [] := va_S.rf
  have hf20 := hIf.1
  have hp24 := h0.1
  refine lv_aload_n hx hb dX7_does_0 rfl (lv_at hl 0 rfl) ?_
  refine lv_iload_n hx hb dX7_does_1 rfl (lv_at hl 1 rfl) ?_
  refine crV (rest := []) S hK (c_X7_isPart l G om μ p (by first | assumption | omega | decide)) cw_X7_103 rfl ⟨Nat.le_of_ble_eq_true rfl, Nat.le_of_ble_eq_true rfl⟩ ⟨Nat.le_of_ble_eq_true rfl, Nat.le_of_ble_eq_true rfl⟩ (bk.recv hK hM rfl rfl) hl.1 rfl (Nat.le_of_ble_eq_true rfl) dX7_does_2 hM ?_
  refine z_if_eq (tgt := 44) hx hb dX7_does_5 (by decide) (fun c_5 => ?_) (fun c_5 => ?_)
  ·
    refine lv_aload_n hx hb dX7_does_44 rfl (lv_at hl 0 rfl) ?_
    refine lv_iconst (v := (-1)) hx hb dX7_does_45 (by decide) ?_
    refine ctV (rest := []) S hK (c_X7_refuse l G om μ (-1) 1 (by first | assumption | omega | decide) (by first | assumption | omega | decide)) cw_X7_72 rfl ⟨Nat.le_of_ble_eq_true rfl, Nat.le_of_ble_eq_true rfl⟩ ⟨Nat.le_of_ble_eq_true rfl, Nat.le_of_ble_eq_true rfl⟩ (bk.recv hK hM rfl rfl) hl.1 rfl (Nat.le_of_ble_eq_true rfl) dX7_does_46 hM hS (fun _ h => h) (fun H locs hPost hz hk hS => ?_)
    have hM := hPost
    have hr : does_M μ p f = ((-1), uA μ 0 1 (μ.2.1 0 1 + 1)) := by unfold does_M; simp [c_5]
    refine w_top (v' := .int ((does_M μ p f).1)) (congrArg (fun z => Value.int z) (congrArg Prod.fst hr).symm) ?_
    exact hE _ _ _ _ _ _ (kr_i dX7_does_49) hS (by decide) (by decide) ⟨(uA μ 0 1 (μ.2.1 0 1 + 1)), hM, (by rw [hr]; exact (scr_rf _))⟩
  ·
    obtain ⟨vp, hvp, rfl⟩ := inI_x c_5
    obtain ⟨-, -, -, -, hvf5, hvc⟩ := h0.2 vp hvp
    have hcp := cx_n (j := vp) (by omega)
    have hsh := shl_le hvf5
    refine lv_aload_n hx hb dX7_does_8 rfl (lv_at hl 0 rfl) ?_
    refine lv_iload_n hx hb dX7_does_9 rfl (lv_at hl 2 rfl) ?_
    refine crV (rest := []) S hK (c_X7_isFormula l G om μ f (by first | assumption | omega | decide)) cw_X7_191 rfl ⟨Nat.le_of_ble_eq_true rfl, Nat.le_of_ble_eq_true rfl⟩ ⟨Nat.le_of_ble_eq_true rfl, Nat.le_of_ble_eq_true rfl⟩ (bk.recv hK hM rfl rfl) hl.1 rfl (Nat.le_of_ble_eq_true rfl) dX7_does_10 hM ?_
    refine z_if_eq (tgt := 44) hx hb dX7_does_13 (by decide) (fun c_13 => ?_) (fun c_13 => ?_)
    ·
      refine lv_aload_n hx hb dX7_does_44 rfl (lv_at hl 0 rfl) ?_
      refine lv_iconst (v := (-1)) hx hb dX7_does_45 (by decide) ?_
      refine ctV (rest := []) S hK (c_X7_refuse l G om μ (-1) 1 (by first | assumption | omega | decide) (by first | assumption | omega | decide)) cw_X7_72 rfl ⟨Nat.le_of_ble_eq_true rfl, Nat.le_of_ble_eq_true rfl⟩ ⟨Nat.le_of_ble_eq_true rfl, Nat.le_of_ble_eq_true rfl⟩ (bk.recv hK hM rfl rfl) hl.1 rfl (Nat.le_of_ble_eq_true rfl) dX7_does_46 hM hS (fun _ h => h) (fun H locs hPost hz hk hS => ?_)
      have hM := hPost
      have hr : does_M μ (nI vp) f = ((-1), uA μ 0 1 (μ.2.1 0 1 + 1)) := by unfold does_M; simp [c_5, hcp, c_13]
      refine w_top (v' := .int ((does_M μ (nI vp) f).1)) (congrArg (fun z => Value.int z) (congrArg Prod.fst hr).symm) ?_
      exact hE _ _ _ _ _ _ (kr_i dX7_does_49) hS (by decide) (by decide) ⟨(uA μ 0 1 (μ.2.1 0 1 + 1)), hM, (by rw [hr]; exact (scr_rf _))⟩
    ·
      obtain ⟨vf, hvf, rfl⟩ := inI_x c_13
      have hcf := cx_n (j := vf) (by omega)
      obtain ⟨h6, hby⟩ := hIf.2 vf hvf
      refine lv_aload_n hx hb dX7_does_16 rfl (lv_at hl 0 rfl) ?_
      refine lv_iload_n hx hb dX7_does_17 rfl (lv_at hl 1 rfl) ?_
      refine crV (rest := []) S hK (c_X7_letsOf l G om μ vp (by first | assumption | omega | decide) (by first | assumption | omega | decide) (by first | assumption | omega | decide)) cw_X7_138 rfl ⟨Nat.le_of_ble_eq_true rfl, Nat.le_of_ble_eq_true rfl⟩ ⟨Nat.le_of_ble_eq_true rfl, Nat.le_of_ble_eq_true rfl⟩ (bk.recv hK hM rfl rfl) hl.1 rfl (Nat.le_of_ble_eq_true rfl) dX7_does_18 hM ?_
      refine lv_aload_n hx hb dX7_does_21 rfl (lv_at hl 0 rfl) ?_
      refine lv_iload_n hx hb dX7_does_22 rfl (lv_at hl 2 rfl) ?_
      refine lv_aload_n hx hb dX7_does_23 rfl (lv_at hl 0 rfl) ?_
      refine kg (C := RX7) (T := TX7) (N := 32) (ci := 5) (k := 3) (v := .ref (om + 4)) S hK rfl inX7 (by decide) q_733 dX7_does_24 hM rfl rfl ?_
      refine lv_iload_n hx hb dX7_does_27 rfl (lv_at hl 1 rfl) ?_
      refine kil (f := μ.2.1 3) S hK dX7_does_28 4 hM rfl (by decide) rfl (by omega) ?_
      refine ctV (rest := [.long (lN (ltM (clM μ vp) (μ.2.1 3 vp)))]) S hK (c_X7_meansOf l G om μ vf (μ.2.1 3 vp) (by first | assumption | omega | decide) (by first | assumption | omega | decide) (by first | assumption | omega | decide) (by first | assumption | omega | decide)) cw_X7_197 rfl ⟨Nat.le_of_ble_eq_true rfl, Nat.le_of_ble_eq_true rfl⟩ ⟨Nat.le_of_ble_eq_true rfl, Nat.le_of_ble_eq_true rfl⟩ (bk.recv hK hM rfl rfl) hl.1 rfl (Nat.le_of_ble_eq_true rfl) dX7_does_29 hM hS (fun _ h => h) (fun H locs hPost hz hk hS => ?_)
      obtain ⟨g29, hM, hq29⟩ := hPost
      refine W.lcmp hx hb dX7_does_32 ?_
      refine nl_if_ne (tgt := 40) hx hb dX7_does_33 (by decide) (bo63 (by omega)) (bo63 (by omega)) (fun c_33 => ?_) (fun c_33 => ?_)
      ·
        have hr : does_M μ (nI vp) (nI vf) = (nI 0, μ) := by unfold does_M; rw [c_5, c_13, if_pos (show (true && true) = true from rfl), hcp, hcf, decide_eq_false c_33]; rfl
        refine lv_iconst (v := nI 0) hx hb dX7_does_40 (by decide) ?_
        refine lv_goto (tgt := 49) hx hb dX7_does_41 (by decide) ?_
        refine w_top (v' := .int ((does_M μ (nI vp) (nI vf)).1)) (show (.int (nI 0) : Value) = .int ((does_M μ (nI vp) (nI vf)).1) from (congrArg (fun z => Value.int z) (congrArg Prod.fst hr).symm)) ?_
        exact hE _ _ _ _ _ _ (kr_i dX7_does_49) hS (by decide) (by decide) ⟨g29, hM, (by rw [hr]; exact hq29)⟩
      ·
        have hr : does_M μ (nI vp) (nI vf) = (nI 1, μ) := by unfold does_M; rw [c_5, c_13, if_pos (show (true && true) = true from rfl), hcp, hcf, decide_eq_true c_33]; rfl
        refine lv_iconst (v := nI 1) hx hb dX7_does_36 (by decide) ?_
        refine lv_goto (tgt := 49) hx hb dX7_does_37 (by decide) ?_
        refine w_top (v' := .int ((does_M μ (nI vp) (nI vf)).1)) (show (.int (nI 1) : Value) = .int ((does_M μ (nI vp) (nI vf)).1) from (congrArg (fun z => Value.int z) (congrArg Prod.fst hr).symm)) ?_
        exact hE _ _ _ _ _ _ (kr_i dX7_does_49) hS (by decide) (by decide) ⟨g29, hM, (by rw [hr]; exact hq29)⟩

set_option maxHeartbeats 1000000 in
set_option maxRecDepth 100000 in
theorem c_X7_misses (l : Launch) (G : Gt) (om : Nat) (μ : Sx) (p : Int32) (f : Int32) (h0 : MI0 μ) (hIf : MIf μ) : Ct l G yX7_misses cX7_misses 6 ((some .int)) 24 0 0 [.ref om, .int p, .int f] (fun H => bk G om (mL G om μ) H) (some (.int ((misses_M μ p f).1))) (fun H => ∃ σ : Sx, bk G om (mL G om σ) H ∧ scr σ (misses_M μ p f).2) (fun q => om ≤ q ∧ q < om + 20) := by
  refine ct_entry [(0, .ref om), (1, .int p), (2, .int f)] (by decide) (Nat.le_of_ble_eq_true rfl) rfl ?_
  intro zp ze zs zm za zb zt zc Q S hK hPre hin hE ls hl
  have hx := S.1
  have hb := S.2.1
  have hM := hPre
  have hS : va_S (fun q => om ≤ q ∧ q < om + 20) zs.heap zs.heap [] := va_S.rf
  have hf20 := hIf.1
  have hp24 := h0.1
  refine lv_aload_n hx hb dX7_misses_0 rfl (lv_at hl 0 rfl) ?_
  refine lv_iload_n hx hb dX7_misses_1 rfl (lv_at hl 1 rfl) ?_
  refine crV (rest := []) S hK (c_X7_isPart l G om μ p (by first | assumption | omega | decide)) cw_X7_103 rfl ⟨Nat.le_of_ble_eq_true rfl, Nat.le_of_ble_eq_true rfl⟩ ⟨Nat.le_of_ble_eq_true rfl, Nat.le_of_ble_eq_true rfl⟩ (bk.recv hK hM rfl rfl) hl.1 rfl (Nat.le_of_ble_eq_true rfl) dX7_misses_2 hM ?_
  refine z_if_eq (tgt := 16) hx hb dX7_misses_5 (by decide) (fun c_5 => ?_) (fun c_5 => ?_)
  ·
    refine lv_aload_n hx hb dX7_misses_16 rfl (lv_at hl 0 rfl) ?_
    refine lv_iconst (v := (-1)) hx hb dX7_misses_17 (by decide) ?_
    refine ctV (rest := []) S hK (c_X7_refuse l G om μ (-1) 1 (by first | assumption | omega | decide) (by first | assumption | omega | decide)) cw_X7_72 rfl ⟨Nat.le_of_ble_eq_true rfl, Nat.le_of_ble_eq_true rfl⟩ ⟨Nat.le_of_ble_eq_true rfl, Nat.le_of_ble_eq_true rfl⟩ (bk.recv hK hM rfl rfl) hl.1 rfl (Nat.le_of_ble_eq_true rfl) dX7_misses_18 hM hS (fun _ h => h) (fun H locs hPost hz hk hS => ?_)
    have hM := hPost
    have hr : misses_M μ p f = ((-1), uA μ 0 1 (μ.2.1 0 1 + 1)) := by unfold misses_M; simp [c_5]
    refine w_top (v' := .int ((misses_M μ p f).1)) (congrArg (fun z => Value.int z) (congrArg Prod.fst hr).symm) ?_
    exact hE _ _ _ _ _ _ (kr_i dX7_misses_21) hS (by decide) (by decide) ⟨(uA μ 0 1 (μ.2.1 0 1 + 1)), hM, (by rw [hr]; exact (scr_rf _))⟩
  ·
    obtain ⟨vp, hvp, rfl⟩ := inI_x c_5
    obtain ⟨-, -, -, -, hvf5, hvc⟩ := h0.2 vp hvp
    have hcp := cx_n (j := vp) (by omega)
    have hsh := shl_le hvf5
    refine lv_aload_n hx hb dX7_misses_8 rfl (lv_at hl 0 rfl) ?_
    refine lv_iload_n hx hb dX7_misses_9 rfl (lv_at hl 2 rfl) ?_
    refine crV (rest := []) S hK (c_X7_isFormula l G om μ f (by first | assumption | omega | decide)) cw_X7_191 rfl ⟨Nat.le_of_ble_eq_true rfl, Nat.le_of_ble_eq_true rfl⟩ ⟨Nat.le_of_ble_eq_true rfl, Nat.le_of_ble_eq_true rfl⟩ (bk.recv hK hM rfl rfl) hl.1 rfl (Nat.le_of_ble_eq_true rfl) dX7_misses_10 hM ?_
    refine z_if_ne (tgt := 22) hx hb dX7_misses_13 (by decide) (fun c_13 => ?_) (fun c_13 => ?_)
    ·
      obtain ⟨vf, hvf, rfl⟩ := inI_x c_13
      have hcf := cx_n (j := vf) (by omega)
      obtain ⟨h6, hby⟩ := hIf.2 vf hvf
      refine lv_aload_n hx hb dX7_misses_22 rfl (lv_at hl 0 rfl) ?_
      refine lv_iload_n hx hb dX7_misses_23 rfl (lv_at hl 1 rfl) ?_
      refine crV (rest := []) S hK (c_X7_letsOf l G om μ vp (by first | assumption | omega | decide) (by first | assumption | omega | decide) (by first | assumption | omega | decide)) cw_X7_138 rfl ⟨Nat.le_of_ble_eq_true rfl, Nat.le_of_ble_eq_true rfl⟩ ⟨Nat.le_of_ble_eq_true rfl, Nat.le_of_ble_eq_true rfl⟩ (bk.recv hK hM rfl rfl) hl.1 rfl (Nat.le_of_ble_eq_true rfl) dX7_misses_24 hM ?_
      refine lv_aload_n hx hb dX7_misses_27 rfl (lv_at hl 0 rfl) ?_
      refine lv_iload_n hx hb dX7_misses_28 rfl (lv_at hl 2 rfl) ?_
      refine lv_aload_n hx hb dX7_misses_29 rfl (lv_at hl 0 rfl) ?_
      refine kg (C := RX7) (T := TX7) (N := 32) (ci := 5) (k := 3) (v := .ref (om + 4)) S hK rfl inX7 (by decide) q_733 dX7_misses_30 hM rfl rfl ?_
      refine lv_iload_n hx hb dX7_misses_33 rfl (lv_at hl 1 rfl) ?_
      refine kil (f := μ.2.1 3) S hK dX7_misses_34 4 hM rfl (by decide) rfl (by omega) ?_
      refine ctV (rest := [.long (lN (ltM (clM μ vp) (μ.2.1 3 vp)))]) S hK (c_X7_meansOf l G om μ vf (μ.2.1 3 vp) (by first | assumption | omega | decide) (by first | assumption | omega | decide) (by first | assumption | omega | decide) (by first | assumption | omega | decide)) cw_X7_197 rfl ⟨Nat.le_of_ble_eq_true rfl, Nat.le_of_ble_eq_true rfl⟩ ⟨Nat.le_of_ble_eq_true rfl, Nat.le_of_ble_eq_true rfl⟩ (bk.recv hK hM rfl rfl) hl.1 rfl (Nat.le_of_ble_eq_true rfl) dX7_misses_35 hM hS (fun _ h => h) (fun H locs hPost hz hk hS => ?_)
      obtain ⟨g35, hM, hq35⟩ := hPost
      refine n_lxor hx hb dX7_misses_38 ?_
      refine lv_lstore_n (lv' := [(3, .long (lN ((ltM (clM μ vp) (μ.2.1 3 vp)) ^^^ (bo (trB μ vf) (1 <<< (μ.2.1 3 vp)))))), (0, .ref om), (1, .int (nI vp)), (2, .int (nI vf))]) hx hb dX7_misses_39 rfl hl (by decide) rfl (fun ls hl => ?_)
      refine lv_iconst (v := nI 0) hx hb dX7_misses_40 (by decide) ?_
      refine lv_istore (lv' := [(5, .int (nI 0)), (3, .long (lN ((ltM (clM μ vp) (μ.2.1 3 vp)) ^^^ (bo (trB μ vf) (1 <<< (μ.2.1 3 vp)))))), (0, .ref om), (1, .int (nI vp)), (2, .int (nI vf))]) hx hb dX7_misses_41 hl (by decide) rfl (fun ls hl => ?_)
      have L43 : ∀ (fu : Nat), ∀ (vs : Nat), (vs ≤ 1 <<< μ.2.1 3 vp) → (fnd (fun s => (ltM (clM μ vp) (μ.2.1 3 vp) ^^^ bo (trB μ vf) (1 <<< μ.2.1 3 vp)).testBit s) (1 <<< μ.2.1 3 vp) 0 = fnd (fun s => (ltM (clM μ vp) (μ.2.1 3 vp) ^^^ bo (trB μ vf) (1 <<< μ.2.1 3 vp)).testBit s) (1 <<< μ.2.1 3 vp - vs) vs) → 1 <<< μ.2.1 3 vp - vs < fu → ∀ (H : Heap) (locs : List Loc), bk G om (mL G om g35) H → va_S (fun q => om ≤ q ∧ q < om + 20) zs.heap H locs → ∀ ls : Array Slot, lv_has ls 6 [(0, .ref om), (1, .int (nI vp)), (3, .long (lN (ltM (clM μ vp) (μ.2.1 3 vp) ^^^ bo (trB μ vf) (1 <<< μ.2.1 3 vp)))), (5, .int (nI vs))] → W zp l ze (rL 24 0 0) zs zm za zb zt zc H locs 0 0 Q (F0 zm 43 ls []) := by
        intro fu
        induction fu with
        | zero =>
          intro vs hvs hfd hmu H locs hM hS ls hl
          exact absurd hmu (Nat.not_lt_zero _)
        | succ fu ih43 =>
          intro vs hvs hfd hmu H locs hM hS ls hl
          have hx63 : ltM (clM μ vp) (μ.2.1 3 vp) ^^^ bo (trB μ vf) (1 <<< μ.2.1 3 vp) < 2 ^ 63 := Nat.xor_lt_two_pow (bo63 (by omega)) (bo63 (by omega))
          refine lv_iload hx hb dX7_misses_43 (lv_at hl 3 rfl) ?_
          refine lv_aload_n hx hb dX7_misses_45 rfl (lv_at hl 0 rfl) ?_
          refine lv_iload_n hx hb dX7_misses_46 rfl (lv_at hl 1 rfl) ?_
          refine crV (rest := [.int (nI vs)]) S hK (c_X7_states l G om g35 vp (by first | assumption | omega | decide) (by rw [hq35.2 3 (by decide)]; exact hvf5)) cw_X7_131 rfl ⟨Nat.le_of_ble_eq_true rfl, Nat.le_of_ble_eq_true rfl⟩ ⟨Nat.le_of_ble_eq_true rfl, Nat.le_of_ble_eq_true rfl⟩ (bk.recv hK hM rfl rfl) hl.1 rfl (Nat.le_of_ble_eq_true rfl) dX7_misses_47 hM ?_
          refine w_top (v' := .int (nI (1 <<< μ.2.1 3 vp))) (congrArg (fun z => Value.int (nI (1 <<< z vp))) (hq35.2 3 (by decide))) ?_
          refine n_icmp_ge (tgt := 73) hx hb dX7_misses_50 (by decide) (by omega) (by omega) (fun c_50 => ?_) (fun c_50 => ?_)
          ·
            have hr : misses_M μ (nI vp) (nI vf) = (-9, μ) := by
              unfold misses_M
              rw [c_5, c_13, if_pos (show (true && true) = true from rfl), hcp, hcf, hfd, show 1 <<< μ.2.1 3 vp - vs = 0 from by omega]
              rfl
            refine lv_bipush (v := (-9)) hx hb dX7_misses_73 (by decide) ?_
            refine w_top (v' := .int ((misses_M μ (nI vp) (nI vf)).1)) (congrArg (fun z => Value.int z) (show (-9) = ((misses_M μ (nI vp) (nI vf)).1) from (congrArg Prod.fst hr).symm)) ?_
            exact hE _ _ _ _ _ _ (kr_i dX7_misses_75) hS (by decide) (by decide) ⟨g35, hM, (by rw [hr]; exact hq35)⟩
          ·
            refine lv_lload_n hx hb dX7_misses_53 rfl (lv_at hl 2 rfl) ?_
            refine lv_iload hx hb dX7_misses_54 (lv_at hl 3 rfl) ?_
            refine n_lshr hx hb dX7_misses_56 (by omega) (by omega) ?_
            refine lv_lconst (v := lN 1) hx hb dX7_misses_57 (by decide) ?_
            refine n_land hx hb dX7_misses_58 ?_
            refine lv_lconst (v := lN 1) hx hb dX7_misses_59 (by decide) ?_
            refine W.lcmp hx hb dX7_misses_60 ?_
            refine nl_if_ne (tgt := 67) hx hb dX7_misses_61 (by decide) (Nat.lt_of_le_of_lt Nat.and_le_right (by decide)) (by decide) (fun c_61 => ?_) (fun c_61 => ?_)
            ·
              have hbt : (ltM (clM μ vp) (μ.2.1 3 vp) ^^^ bo (trB μ vf) (1 <<< μ.2.1 3 vp)).testBit vs = false := by
                cases hq : (ltM (clM μ vp) (μ.2.1 3 vp) ^^^ bo (trB μ vf) (1 <<< μ.2.1 3 vp)).testBit vs
                · rfl
                · exact absurd (bit1.mpr hq) c_61
              refine lv_iinc (v := nI (vs + 1)) (lv' := [(5, .int (nI (vs + 1))), (0, .ref om), (1, .int (nI vp)), (3, .long (lN (ltM (clM μ vp) (μ.2.1 3 vp) ^^^ bo (trB μ vf) (1 <<< μ.2.1 3 vp))))]) hx hb dX7_misses_67 hl (k := 3) rfl (inc1 _) (by decide) rfl (fun ls hl => ?_)
              refine lv_goto (tgt := 43) hx hb dX7_misses_70 (by decide) ?_
              exact ih43 (vs + 1) (by first | assumption | omega) (by rw [hfd, show 1 <<< μ.2.1 3 vp - vs = (1 <<< μ.2.1 3 vp - (vs + 1)) + 1 from by omega]; exact fnd_f hbt) (by omega) _ _ hM hS ls (lv_sub hl [1, 2, 3, 0] rfl)
            ·
              have hr : misses_M μ (nI vp) (nI vf) = (nI vs, μ) := by
                unfold misses_M
                rw [c_5, c_13, if_pos (show (true && true) = true from rfl), hcp, hcf, hfd, show 1 <<< μ.2.1 3 vp - vs = (1 <<< μ.2.1 3 vp - (vs + 1)) + 1 from by omega, fnd_t (bit1.mp c_61)]
                rfl
              refine lv_iload hx hb dX7_misses_64 (lv_at hl 3 rfl) ?_
              refine w_top (v' := .int ((misses_M μ (nI vp) (nI vf)).1)) (show (.int (nI vs) : Value) = .int ((misses_M μ (nI vp) (nI vf)).1) from (congrArg (fun z => Value.int z) (congrArg Prod.fst hr).symm)) ?_
              exact hE _ _ _ _ _ _ (kr_i dX7_misses_66) hS (by decide) (by decide) ⟨g35, hM, (by rw [hr]; exact hq35)⟩
      replace hl := lv_eq 1 hl rfl (v2 := .long (lN (ltM (clM μ vp) (μ.2.1 3 vp) ^^^ bo (trB μ vf) (1 <<< μ.2.1 3 vp)))) (congrArg (fun z => Value.long (lN z)) (show ((ltM (clM μ vp) (μ.2.1 3 vp)) ^^^ (bo (trB μ vf) (1 <<< (μ.2.1 3 vp)))) = (ltM (clM μ vp) (μ.2.1 3 vp) ^^^ bo (trB μ vf) (1 <<< μ.2.1 3 vp)) from by first | rfl | omega))
      exact L43 ((1 <<< μ.2.1 3 vp - 0) + 1) 0 (Nat.zero_le _) rfl (Nat.lt_succ_self _) _ _ hM hS ls (lv_sub hl [2, 3, 1, 0] rfl)
    ·
      refine lv_aload_n hx hb dX7_misses_16 rfl (lv_at hl 0 rfl) ?_
      refine lv_iconst (v := (-1)) hx hb dX7_misses_17 (by decide) ?_
      refine ctV (rest := []) S hK (c_X7_refuse l G om μ (-1) 1 (by first | assumption | omega | decide) (by first | assumption | omega | decide)) cw_X7_72 rfl ⟨Nat.le_of_ble_eq_true rfl, Nat.le_of_ble_eq_true rfl⟩ ⟨Nat.le_of_ble_eq_true rfl, Nat.le_of_ble_eq_true rfl⟩ (bk.recv hK hM rfl rfl) hl.1 rfl (Nat.le_of_ble_eq_true rfl) dX7_misses_18 hM hS (fun _ h => h) (fun H locs hPost hz hk hS => ?_)
      have hM := hPost
      have hr : misses_M μ (nI vp) f = ((-1), uA μ 0 1 (μ.2.1 0 1 + 1)) := by unfold misses_M; simp [c_5, hcp, c_13]
      refine w_top (v' := .int ((misses_M μ (nI vp) f).1)) (congrArg (fun z => Value.int z) (congrArg Prod.fst hr).symm) ?_
      exact hE _ _ _ _ _ _ (kr_i dX7_misses_21) hS (by decide) (by decide) ⟨(uA μ 0 1 (μ.2.1 0 1 + 1)), hM, (by rw [hr]; exact (scr_rf _))⟩

set_option maxHeartbeats 1000000 in
set_option maxRecDepth 100000 in
theorem c_X7_formula (l : Launch) (G : Gt) (om : Nat) (μ : Sx) (hIf : MIf μ) (hIt : MIt μ) : Ct l G yX7_formula cX7_formula 5 ((some .int)) 21 0 0 [.ref om] (fun H => bk G om (mL G om μ) H) (some (.int ((formula_M μ).1))) (fun H => ∃ σ : Sx, bk G om (mL G om σ) H ∧ scr σ (formula_M μ).2) (fun q => om ≤ q ∧ q < om + 20) := by
  refine ct_entry [(0, .ref om)] (by decide) (Nat.le_of_ble_eq_true rfl) rfl ?_
  intro zp ze zs zm za zb zt zc Q S hK hPre hin hE ls hl
  have hx := S.1
  have hb := S.2.1
  have hM := hPre
  have hS : va_S (fun q => om ≤ q ∧ q < om + 20) zs.heap zs.heap [] := va_S.rf
  have hf20 := hIf.1
  have ht40 := hIt.1
  have hPT : PW (gtS μ 17 0 (μ.1 22) 0) := ⟨Or.inl ⟨rfl, (by show 0 + μ.1 22 ≤ 40; omega)⟩, (fun i hi => by show μ.2.1 21 (0 + i) < 256; rw [Nat.zero_add]; exact hIt.2 i hi), ht40, (by show 0 < 2 ^ 31; decide)⟩
  refine lv_aload_n hx hb dX7_formula_0 rfl (lv_at hl 0 rfl) ?_
  refine kg (C := RX7) (T := TX7) (N := 32) (ci := 5) (k := 17) (v := .int (nI (μ.1 17))) S hK rfl inX7 (by decide) q_747 dX7_formula_1 hM rfl rfl ?_
  refine lv_bipush (v := nI 20) hx hb dX7_formula_4 (by decide) ?_
  refine n_icmp_ne (tgt := 16) hx hb dX7_formula_6 (by decide) (by omega) (by decide) (fun c_6 => ?_) (fun c_6 => ?_)
  ·
    refine lv_aload_n hx hb dX7_formula_16 rfl (lv_at hl 0 rfl) ?_
    refine lv_aload_n hx hb dX7_formula_17 rfl (lv_at hl 0 rfl) ?_
    refine kg (C := RX7) (T := TX7) (N := 32) (ci := 5) (k := 21) (v := .ref (om + 17)) S hK rfl inX7 (by decide) q_751 dX7_formula_18 hM rfl rfl ?_
    refine lv_iconst (v := nI 0) hx hb dX7_formula_21 (by decide) ?_
    refine lv_aload_n hx hb dX7_formula_22 rfl (lv_at hl 0 rfl) ?_
    refine kg (C := RX7) (T := TX7) (N := 32) (ci := 5) (k := 22) (v := .int (nI (μ.1 22))) S hK rfl inX7 (by decide) q_752 dX7_formula_23 hM rfl rfl ?_
    refine lv_iconst (v := nI 0) hx hb dX7_formula_26 (by decide) ?_
    rcases hq : tpP μ with ⟨vb1, p1, d1, w1⟩
    have hq2 : (tpP μ).2.2.2 = w1 := by rw [hq]
    have hq3 : (tpP μ).2.1 = p1 := by rw [hq]
    have hpb : p1 ≤ μ.1 22 := (pP_k hq (Nat.zero_le _) (by decide) (by decide)).2.1
    have hw2 : w1 < 2 := (pP_k hq (Nat.zero_le _) (by decide) (by decide)).2.2.2.2
    refine ctV (rest := []) S hK (c_X7_goesThrough_17 l G om μ 0 (μ.1 22) 0 vb1 p1 d1 w1 hPT ht40 hq) cw_X7_184 rfl ⟨Nat.le_of_ble_eq_true rfl, Nat.le_of_ble_eq_true rfl⟩ ⟨Nat.le_of_ble_eq_true rfl, Nat.le_of_ble_eq_true rfl⟩ (bk.recv hK hM rfl rfl) hl.1 rfl (Nat.le_of_ble_eq_true rfl) dX7_formula_27 hM hS (fun _ h => h) (fun H locs hPost hz hk hS => ?_)
    have hM := hPost
    refine lv_istore_n (lv' := [(1, .int (b2i vb1)), (0, .ref om)]) hx hb dX7_formula_30 rfl hl (by decide) rfl (fun ls hl => ?_)
    refine lv_aload_n hx hb dX7_formula_31 rfl (lv_at hl 1 rfl) ?_
    refine kg (C := RX7) (T := TX7) (N := 32) (ci := 5) (k := 29) (v := .int (nI w1)) S hK rfl inX7 (by decide) q_759 dX7_formula_32 hM rfl rfl ?_
    refine n_if_eq (tgt := 53) hx hb dX7_formula_35 (by decide) (by omega) (fun c_35 => ?_) (fun c_35 => ?_)
    ·
      refine lv_iconst (v := nI 0) hx hb dX7_formula_53 (by decide) ?_
      refine lv_istore_n (lv' := [(2, .int (nI 0)), (1, .int (b2i vb1)), (0, .ref om)]) hx hb dX7_formula_54 rfl hl (by decide) rfl (fun ls hl => ?_)
      refine lv_aload_n hx hb dX7_formula_55 rfl (lv_at hl 2 rfl) ?_
      refine kg (C := RX7) (T := TX7) (N := 32) (ci := 5) (k := 22) (v := .int (nI (μ.1 22))) S hK rfl inX7 (by decide) q_752 dX7_formula_56 hM rfl rfl ?_
      refine lv_istore_n (lv' := [(3, .int (nI (μ.1 22))), (2, .int (nI 0)), (1, .int (b2i vb1)), (0, .ref om)]) hx hb dX7_formula_59 rfl hl (by decide) rfl (fun ls hl => ?_)
      refine lv_aload_n hx hb dX7_formula_60 rfl (lv_at hl 3 rfl) ?_
      refine lv_iconst (v := nI 0) hx hb dX7_formula_61 (by decide) ?_
      refine kp (C := RX7) (T := TX7) (N := 32) (ci := 5) (k := 22) (ty := .int) tyX7 tyX7_ok nmX7 S hK rfl inX7 (by decide) q_752 rfl dX7_formula_62 rfl rfl rfl hM rfl (Nat.le_of_ble_eq_true rfl) (L1 := mL G om (uS (pq (gtS μ 17 0 (μ.1 22) 0) p1 d1 w1) 22 0)) rfl hS (by first | exact ⟨by omega, by omega⟩ | omega) (fun H locs hM hS hz hk => ?_)
      refine lv_iload_n hx hb dX7_formula_65 rfl (lv_at hl 1 rfl) ?_
      refine n_if_ne (tgt := 77) hx hb dX7_formula_66 (by decide) (by decide) (fun c_66 => ?_) (fun c_66 => ?_)
      ·
        exact absurd c_66 (by decide)
      ·
        refine lv_bipush (v := (-20)) hx hb dX7_formula_69 (by decide) ?_
        refine lv_aload_n hx hb dX7_formula_71 rfl (lv_at hl 3 rfl) ?_
        refine kg (C := RX7) (T := TX7) (N := 32) (ci := 5) (k := 23) (v := .int (nI p1)) S hK rfl inX7 (by decide) q_753 dX7_formula_72 hM rfl rfl ?_
        refine lv_isub hx hb dX7_formula_75 ?_
        have hr : formula_M μ = (((-20) - (nI p1)), uS μ 22 0) := by unfold formula_M; rw [if_neg (by omega), if_neg (by omega), hq3]
        refine w_top (v' := .int ((formula_M μ).1)) (congrArg (fun z => Value.int z) (congrArg Prod.fst hr).symm) ?_
        exact hE _ _ _ _ _ _ (kr_i dX7_formula_76) hS (by decide) (by decide) ⟨(uS (pq (gtS μ 17 0 (μ.1 22) 0) p1 d1 w1) 22 0), hM, (by rw [hr]; exact (scr_uS (scr_g _ _ _ _ _ _ _ _) _ _))⟩
    ·
      refine lv_aload_n hx hb dX7_formula_38 rfl (lv_at hl 1 rfl) ?_
      refine kg (C := RX7) (T := TX7) (N := 32) (ci := 5) (k := 23) (v := .int (nI p1)) S hK rfl inX7 (by decide) q_753 dX7_formula_39 hM rfl rfl ?_
      refine lv_aload_n hx hb dX7_formula_42 rfl (lv_at hl 1 rfl) ?_
      refine kg (C := RX7) (T := TX7) (N := 32) (ci := 5) (k := 22) (v := .int (nI (μ.1 22))) S hK rfl inX7 (by decide) q_752 dX7_formula_43 hM rfl rfl ?_
      refine n_icmp_ne (tgt := 53) hx hb dX7_formula_46 (by decide) (by omega) (by omega) (fun c_46 => ?_) (fun c_46 => ?_)
      ·
        refine lv_iconst (v := nI 0) hx hb dX7_formula_53 (by decide) ?_
        refine lv_istore_n (lv' := [(2, .int (nI 0)), (1, .int (b2i vb1)), (0, .ref om)]) hx hb dX7_formula_54 rfl hl (by decide) rfl (fun ls hl => ?_)
        refine lv_aload_n hx hb dX7_formula_55 rfl (lv_at hl 2 rfl) ?_
        refine kg (C := RX7) (T := TX7) (N := 32) (ci := 5) (k := 22) (v := .int (nI (μ.1 22))) S hK rfl inX7 (by decide) q_752 dX7_formula_56 hM rfl rfl ?_
        refine lv_istore_n (lv' := [(3, .int (nI (μ.1 22))), (2, .int (nI 0)), (1, .int (b2i vb1)), (0, .ref om)]) hx hb dX7_formula_59 rfl hl (by decide) rfl (fun ls hl => ?_)
        refine lv_aload_n hx hb dX7_formula_60 rfl (lv_at hl 3 rfl) ?_
        refine lv_iconst (v := nI 0) hx hb dX7_formula_61 (by decide) ?_
        refine kp (C := RX7) (T := TX7) (N := 32) (ci := 5) (k := 22) (ty := .int) tyX7 tyX7_ok nmX7 S hK rfl inX7 (by decide) q_752 rfl dX7_formula_62 rfl rfl rfl hM rfl (Nat.le_of_ble_eq_true rfl) (L1 := mL G om (uS (pq (gtS μ 17 0 (μ.1 22) 0) p1 d1 w1) 22 0)) rfl hS (by first | exact ⟨by omega, by omega⟩ | omega) (fun H locs hM hS hz hk => ?_)
        refine lv_iload_n hx hb dX7_formula_65 rfl (lv_at hl 1 rfl) ?_
        refine n_if_ne (tgt := 77) hx hb dX7_formula_66 (by decide) (by decide) (fun c_66 => ?_) (fun c_66 => ?_)
        ·
          exact absurd c_66 (by decide)
        ·
          refine lv_bipush (v := (-20)) hx hb dX7_formula_69 (by decide) ?_
          refine lv_aload_n hx hb dX7_formula_71 rfl (lv_at hl 3 rfl) ?_
          refine kg (C := RX7) (T := TX7) (N := 32) (ci := 5) (k := 23) (v := .int (nI p1)) S hK rfl inX7 (by decide) q_753 dX7_formula_72 hM rfl rfl ?_
          refine lv_isub hx hb dX7_formula_75 ?_
          have hr : formula_M μ = (((-20) - (nI p1)), uS μ 22 0) := by unfold formula_M; rw [if_neg (by omega), if_neg (by omega), hq3]
          refine w_top (v' := .int ((formula_M μ).1)) (congrArg (fun z => Value.int z) (congrArg Prod.fst hr).symm) ?_
          exact hE _ _ _ _ _ _ (kr_i dX7_formula_76) hS (by decide) (by decide) ⟨(uS (pq (gtS μ 17 0 (μ.1 22) 0) p1 d1 w1) 22 0), hM, (by rw [hr]; exact (scr_uS (scr_g _ _ _ _ _ _ _ _) _ _))⟩
      ·
        refine lv_iconst (v := nI 1) hx hb dX7_formula_49 (by decide) ?_
        refine lv_goto (tgt := 54) hx hb dX7_formula_50 (by decide) ?_
        refine lv_istore_n (lv' := [(2, .int (nI 1)), (1, .int (b2i vb1)), (0, .ref om)]) hx hb dX7_formula_54 rfl hl (by decide) rfl (fun ls hl => ?_)
        refine lv_aload_n hx hb dX7_formula_55 rfl (lv_at hl 2 rfl) ?_
        refine kg (C := RX7) (T := TX7) (N := 32) (ci := 5) (k := 22) (v := .int (nI (μ.1 22))) S hK rfl inX7 (by decide) q_752 dX7_formula_56 hM rfl rfl ?_
        refine lv_istore_n (lv' := [(3, .int (nI (μ.1 22))), (2, .int (nI 1)), (1, .int (b2i vb1)), (0, .ref om)]) hx hb dX7_formula_59 rfl hl (by decide) rfl (fun ls hl => ?_)
        refine lv_aload_n hx hb dX7_formula_60 rfl (lv_at hl 3 rfl) ?_
        refine lv_iconst (v := nI 0) hx hb dX7_formula_61 (by decide) ?_
        refine kp (C := RX7) (T := TX7) (N := 32) (ci := 5) (k := 22) (ty := .int) tyX7 tyX7_ok nmX7 S hK rfl inX7 (by decide) q_752 rfl dX7_formula_62 rfl rfl rfl hM rfl (Nat.le_of_ble_eq_true rfl) (L1 := mL G om (uS (pq (gtS μ 17 0 (μ.1 22) 0) p1 d1 w1) 22 0)) rfl hS (by first | exact ⟨by omega, by omega⟩ | omega) (fun H locs hM hS hz hk => ?_)
        refine lv_iload_n hx hb dX7_formula_65 rfl (lv_at hl 1 rfl) ?_
        refine n_if_ne (tgt := 77) hx hb dX7_formula_66 (by decide) (by decide) (fun c_66 => ?_) (fun c_66 => ?_)
        ·
          refine lv_iconst (v := nI 0) hx hb dX7_formula_77 (by decide) ?_
          refine lv_istore (lv' := [(4, .int (nI 0)), (3, .int (nI (μ.1 22))), (2, .int (nI 1)), (1, .int (b2i vb1)), (0, .ref om)]) hx hb dX7_formula_78 hl (by decide) rfl (fun ls hl => ?_)
          have L80 : ∀ (fu : Nat), ∀ (vk : Nat), (vk ≤ μ.1 22) → μ.1 22 - vk < fu → ∀ (H : Heap) (locs : List Loc), bk G om (mL G om (fcS (uS (pq (gtS μ 17 0 (μ.1 22) 0) p1 d1 w1) 22 0) vk)) H → va_S (fun q => om ≤ q ∧ q < om + 20) zs.heap H locs → ∀ ls : Array Slot, lv_has ls 5 [(0, .ref om), (3, .int (nI (μ.1 22))), (4, .int (nI vk))] → W zp l ze (rL 21 0 0) zs zm za zb zt zc H locs 0 0 Q (F0 zm 80 ls []) := by
            intro fu
            induction fu with
            | zero =>
              intro vk hvk hmu H locs hM hS ls hl
              exact absurd hmu (Nat.not_lt_zero _)
            | succ fu ih80 =>
              intro vk hvk hmu H locs hM hS ls hl
              have hk17 := fcS_1 (uS (pq (gtS μ 17 0 (μ.1 22) 0) p1 d1 w1) 22 0) 17 vk
              have hl17 : (uS (pq (gtS μ 17 0 (μ.1 22) 0) p1 d1 w1) 22 0).1 17 = μ.1 17 := rfl
              refine lv_iload hx hb dX7_formula_80 (lv_at hl 2 rfl) ?_
              refine lv_iload_n hx hb dX7_formula_82 rfl (lv_at hl 1 rfl) ?_
              refine n_icmp_ge (tgt := 114) hx hb dX7_formula_83 (by decide) (by omega) (by omega) (fun c_83 => ?_) (fun c_83 => ?_)
              ·
                have hv40 : vk = μ.1 22 := by omega
                refine lv_aload_n hx hb dX7_formula_114 rfl (lv_at hl 0 rfl) ?_
                refine kg (C := RX7) (T := TX7) (N := 32) (ci := 5) (k := 6) (v := .ref (om + 7)) S hK rfl inX7 (by decide) q_736 dX7_formula_115 hM rfl rfl ?_
                refine lv_aload_n hx hb dX7_formula_118 rfl (lv_at hl 0 rfl) ?_
                refine kg (C := RX7) (T := TX7) (N := 32) (ci := 5) (k := 17) (v := .int (nI ((fcS (uS (pq (gtS μ 17 0 (μ.1 22) 0) p1 d1 w1) 22 0) vk).1 17))) S hK rfl inX7 (by decide) q_747 dX7_formula_119 hM rfl rfl ?_
                refine lv_iload_n hx hb dX7_formula_122 rfl (lv_at hl 1 rfl) ?_
                refine kis S hK dX7_formula_123 7 hM rfl (by decide) rfl (by omega) rfl (L1 := mL G om (uA (fcS (uS (pq (gtS μ 17 0 (μ.1 22) 0) p1 d1 w1) 22 0) vk) 6 ((fcS (uS (pq (gtS μ 17 0 (μ.1 22) 0) p1 d1 w1) 22 0) vk).1 17) (μ.1 22))) rfl hS (by first | exact ⟨by omega, by omega⟩ | omega) (fun H locs hM hS hz hk => ?_)
                refine lv_aload_n hx hb dX7_formula_124 rfl (lv_at hl 0 rfl) ?_
                refine lv_dup hx hb dX7_formula_125 rfl ?_
                refine kg (C := RX7) (T := TX7) (N := 32) (ci := 5) (k := 17) (v := .int (nI ((fcS (uS (pq (gtS μ 17 0 (μ.1 22) 0) p1 d1 w1) 22 0) vk).1 17))) S hK rfl inX7 (by decide) q_747 dX7_formula_126 hM rfl rfl ?_
                refine lv_iconst (v := nI 1) hx hb dX7_formula_129 (by decide) ?_
                refine n_iadd hx hb dX7_formula_130 ?_
                refine kp (C := RX7) (T := TX7) (N := 32) (ci := 5) (k := 17) (ty := .int) tyX7 tyX7_ok nmX7 S hK rfl inX7 (by decide) q_747 rfl dX7_formula_131 rfl rfl rfl hM rfl (Nat.le_of_ble_eq_true rfl) (L1 := mL G om (uS (uA (fcS (uS (pq (gtS μ 17 0 (μ.1 22) 0) p1 d1 w1) 22 0) vk) 6 ((fcS (uS (pq (gtS μ 17 0 (μ.1 22) 0) p1 d1 w1) 22 0) vk).1 17) (μ.1 22)) 17 (((fcS (uS (pq (gtS μ 17 0 (μ.1 22) 0) p1 d1 w1) 22 0) vk).1 17) + 1))) rfl hS (by first | exact ⟨by omega, by omega⟩ | omega) (fun H locs hM hS hz hk => ?_)
                refine lv_aload_n hx hb dX7_formula_134 rfl (lv_at hl 0 rfl) ?_
                refine kg (C := RX7) (T := TX7) (N := 32) (ci := 5) (k := 17) (v := .int (nI (((fcS (uS (pq (gtS μ 17 0 (μ.1 22) 0) p1 d1 w1) 22 0) vk).1 17) + 1))) S hK rfl inX7 (by decide) q_747 dX7_formula_135 hM rfl rfl ?_
                refine lv_iconst (v := nI 1) hx hb dX7_formula_138 (by decide) ?_
                refine n_isub hx hb dX7_formula_139 (by omega) ?_
                have hr : formula_M μ = (nI (μ.1 17), uS (uA (fcS (uS μ 22 0) vk) 6 (μ.1 17) (μ.1 22)) 17 (μ.1 17 + 1)) := by unfold formula_M; rw [if_neg (by omega), if_pos ⟨by omega, by omega⟩, hv40]
                have hsc := scr_fc (scr_uS (scr_g μ 17 0 (μ.1 22) 0 p1 d1 w1) 22 0) vk
                refine w_top (v' := .int ((formula_M μ).1)) (show (.int (nI ((((fcS (uS (pq (gtS μ 17 0 (μ.1 22) 0) p1 d1 w1) 22 0) vk).1 17) + 1) - 1)) : Value) = .int ((formula_M μ).1) from (by rw [hr]; show Value.int (nI (_ + 1 - 1)) = _; rw [hk17, hl17]; rfl)) ?_
                exact hE _ _ _ _ _ _ (kr_i dX7_formula_140) hS (by decide) (by decide) ⟨(uS (uA (fcS (uS (pq (gtS μ 17 0 (μ.1 22) 0) p1 d1 w1) 22 0) vk) 6 ((fcS (uS (pq (gtS μ 17 0 (μ.1 22) 0) p1 d1 w1) 22 0) vk).1 17) (μ.1 22)) 17 (((fcS (uS (pq (gtS μ 17 0 (μ.1 22) 0) p1 d1 w1) 22 0) vk).1 17) + 1)), hM, (by rw [hr, hk17, hl17]; exact scr_uS (scr_uA hsc _ _ _) _ _)⟩
              ·
                refine lv_aload_n hx hb dX7_formula_86 rfl (lv_at hl 0 rfl) ?_
                refine kg (C := RX7) (T := TX7) (N := 32) (ci := 5) (k := 5) (v := .ref (om + 6)) S hK rfl inX7 (by decide) q_735 dX7_formula_87 hM rfl rfl ?_
                refine lv_bipush (v := nI 40) hx hb dX7_formula_90 (by decide) ?_
                refine lv_aload_n hx hb dX7_formula_92 rfl (lv_at hl 0 rfl) ?_
                refine kg (C := RX7) (T := TX7) (N := 32) (ci := 5) (k := 17) (v := .int (nI ((fcS (uS (pq (gtS μ 17 0 (μ.1 22) 0) p1 d1 w1) 22 0) vk).1 17))) S hK rfl inX7 (by decide) q_747 dX7_formula_93 hM rfl rfl ?_
                refine n_imul hx hb dX7_formula_96 ?_
                refine lv_iload hx hb dX7_formula_97 (lv_at hl 2 rfl) ?_
                refine n_iadd hx hb dX7_formula_99 ?_
                refine lv_aload_n hx hb dX7_formula_100 rfl (lv_at hl 0 rfl) ?_
                refine kg (C := RX7) (T := TX7) (N := 32) (ci := 5) (k := 21) (v := .ref (om + 17)) S hK rfl inX7 (by decide) q_751 dX7_formula_101 hM rfl rfl ?_
                refine lv_iload hx hb dX7_formula_104 (lv_at hl 2 rfl) ?_
                refine kil (f := (fcS (uS (pq (gtS μ 17 0 (μ.1 22) 0) p1 d1 w1) 22 0) vk).2.1 21) S hK dX7_formula_106 17 hM rfl (by decide) rfl (by omega) ?_
                refine kis S hK dX7_formula_107 6 hM rfl (by decide) rfl (by omega) rfl (L1 := mL G om (uA (fcS (uS (pq (gtS μ 17 0 (μ.1 22) 0) p1 d1 w1) 22 0) vk) 5 ((40 * ((fcS (uS (pq (gtS μ 17 0 (μ.1 22) 0) p1 d1 w1) 22 0) vk).1 17)) + vk) ((fcS (uS (pq (gtS μ 17 0 (μ.1 22) 0) p1 d1 w1) 22 0) vk).2.1 21 vk))) rfl hS (by first | exact ⟨by omega, by omega⟩ | omega) (fun H locs hM hS hz hk => ?_)
                refine lv_iinc (v := nI (vk + 1)) (lv' := [(4, .int (nI (vk + 1))), (0, .ref om), (3, .int (nI (μ.1 22)))]) hx hb dX7_formula_108 hl (k := 2) rfl (inc1 _) (by decide) rfl (fun ls hl => ?_)
                refine lv_goto (tgt := 80) hx hb dX7_formula_111 (by decide) ?_
                replace hM := bk_eq hM (show mL G om (uA (fcS (uS (pq (gtS μ 17 0 (μ.1 22) 0) p1 d1 w1) 22 0) vk) 5 ((40 * ((fcS (uS (pq (gtS μ 17 0 (μ.1 22) 0) p1 d1 w1) 22 0) vk).1 17)) + vk) ((fcS (uS (pq (gtS μ 17 0 (μ.1 22) 0) p1 d1 w1) 22 0) vk).2.1 21 vk)) = mL G om (fcS (uS (pq (gtS μ 17 0 (μ.1 22) 0) p1 d1 w1) 22 0) (vk + 1)) from rfl)
                exact ih80 (vk + 1) (by first | assumption | omega) (by omega) _ _ hM hS ls (lv_sub hl [1, 2, 0] rfl)
          replace hM := bk_eq hM (show mL G om (uS (pq (gtS μ 17 0 (μ.1 22) 0) p1 d1 w1) 22 0) = mL G om (fcS (uS (pq (gtS μ 17 0 (μ.1 22) 0) p1 d1 w1) 22 0) 0) from rfl)
          exact L80 ((μ.1 22 - 0) + 1) 0 (Nat.zero_le _) (Nat.lt_succ_self _) _ _ hM hS ls (lv_sub hl [4, 1, 0] rfl)
        ·
          exact absurd c_66 (by decide)
  ·
    refine lv_aload_n hx hb dX7_formula_9 rfl (lv_at hl 0 rfl) ?_
    refine lv_bipush (v := (-6)) hx hb dX7_formula_10 (by decide) ?_
    refine ctV (rest := []) S hK (c_X7_refuse l G om μ (-6) 6 (by first | assumption | omega | decide) (by first | assumption | omega | decide)) cw_X7_72 rfl ⟨Nat.le_of_ble_eq_true rfl, Nat.le_of_ble_eq_true rfl⟩ ⟨Nat.le_of_ble_eq_true rfl, Nat.le_of_ble_eq_true rfl⟩ (bk.recv hK hM rfl rfl) hl.1 rfl (Nat.le_of_ble_eq_true rfl) dX7_formula_12 hM hS (fun _ h => h) (fun H locs hPost hz hk hS => ?_)
    have hM := hPost
    have hr : formula_M μ = ((-6), uA μ 0 6 (μ.2.1 0 6 + 1)) := by unfold formula_M; rw [if_pos (by omega)]
    refine w_top (v' := .int ((formula_M μ).1)) (congrArg (fun z => Value.int z) (congrArg Prod.fst hr).symm) ?_
    exact hE _ _ _ _ _ _ (kr_i dX7_formula_15) hS (by decide) (by decide) ⟨(uA μ 0 6 (μ.2.1 0 6 + 1)), hM, (by rw [hr]; exact (scr_rf _))⟩
