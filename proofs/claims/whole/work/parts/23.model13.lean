
/-! walks: the reference's FLOOR -/
def MIl (μ : Sx) : Prop := μ.1 19 ≤ 10 ∧ ∀ k, k < μ.1 19 → μ.2.1 12 k < μ.1 16 ∧ μ.2.1 13 k + μ.2.1 1 (μ.2.1 12 k) ≤ 12 ∧ μ.2.1 14 k + μ.2.1 2 (μ.2.1 12 k) ≤ 12
def lay_M (μ : Sx) (p x y : Int32) : Int32 × Sx := if inI p (μ.1 16) then (if x < 0 ∨ ¬ 0 ≤ y then (-4, rfM μ 4) else if 12 - μ.2.1 1 (cx p) < cx x ∨ 12 - μ.2.1 2 (cx p) < cx y ∨ μ.1 19 = 10 then (-6, rfM μ 6) else (nI (μ.1 19), uS (uA (uA (uA μ 12 (μ.1 19) (cx p)) 13 (μ.1 19) (cx x)) 14 (μ.1 19) (cx y)) 19 (μ.1 19 + 1))) else (-1, rfM μ 1)
def onM (μ : Sx) (k x y : Nat) : Nat := if (μ.2.1 13 k ≤ x ∧ x < μ.2.1 13 k + μ.2.1 1 (μ.2.1 12 k)) ∧ (μ.2.1 14 k ≤ y ∧ y < μ.2.1 14 k + μ.2.1 2 (μ.2.1 12 k)) then clM μ (μ.2.1 12 k) (5 * (y - μ.2.1 14 k) + (x - μ.2.1 13 k)) else 0
theorem nI_subI {a b : Nat} (ha : a < 2 ^ 30) (hb : b < 2 ^ 30) : (nI a - nI b).toInt = (a : Int) - b := by
  have e : nI a - nI b = Int32.ofInt ((a : Int) - b) := by
    rw [Int32.ofInt_sub]
    rfl
  rw [e, Int32.toInt_ofInt_of_le]
  · show -2147483648 ≤ _
    omega
  · show _ < (2147483648 : Int)
    omega
theorem inI_sub {a b n : Nat} (ha : a < 2 ^ 30) (hb : b < 2 ^ 30) : inI (nI a - nI b) n = (decide (b ≤ a) && decide (a < b + n)) := by
  unfold inI
  rw [nI_subI ha hb]
  by_cases h1 : b ≤ a
  · by_cases h2 : a < b + n
    · rw [decide_eq_true h1, decide_eq_true h2, decide_eq_true (by omega), decide_eq_true (by omega)]
    · rw [decide_eq_false h2, decide_eq_false (p := (a : Int) - b < n) (by omega), Bool.and_false, Bool.and_false]
  · rw [decide_eq_false h1, decide_eq_false (p := (0 : Int) ≤ (a : Int) - b) (by omega)]
    rfl
theorem nI_subN {a b : Nat} (h : b ≤ a) (ha : a < 2 ^ 30) : nI a - nI b = nI (a - b) := by
  apply Int32.toInt_inj.mp
  rw [nI_subI ha (by omega), nI_toInt (by omega)]
  omega
theorem on_lt {μ : Sx} {k : Nat} (h0 : MI0 μ) (hl : MIl μ) (hk : k < μ.1 19) (x y : Nat) : onM μ k x y < 16 := by
  unfold onM
  have h1 := (hl.2 k hk).1
  obtain ⟨hw1, hw5, hh1, hh4, hf5, hcl⟩ := h0.2 _ h1
  by_cases e : (μ.2.1 13 k ≤ x ∧ x < μ.2.1 13 k + μ.2.1 1 (μ.2.1 12 k)) ∧ (μ.2.1 14 k ≤ y ∧ y < μ.2.1 14 k + μ.2.1 2 (μ.2.1 12 k))
  · rw [if_pos e]
    exact hcl _ (by omega)
  · rw [if_neg e]
    decide
/-- where a FACE lies: 12 x and y -/
abbrev plM (μ : Sx) (k f : Nat) : Option Nat := fnd (fun i => decide (onM μ k (i / 12) (i % 12) = 10 + f)) 144 0
abbrev ovB (μ : Sx) (a b : Nat) : Bool := (fnd (fun i => !decide (onM μ a (i / 12) (i % 12) = 0) && !decide (onM μ b (i / 12) (i % 12) = 0)) 144 0).isSome
abbrev ovA (μ : Sx) (a : Nat) : Option Nat := fnd (fun b => ovB μ a b) (μ.1 19 - (a + 1)) (a + 1)
def overlap_M (μ : Sx) : Int32 := match fnd (fun a => (ovA μ a).isSome) (μ.1 19) 0 with
  | none => -9
  | some a => match ovA μ a with
    | none => -9
    | some b => nI (10 * a + b)
theorem ovl_n {μ : Sx} (h : fnd (fun a => (ovA μ a).isSome) (μ.1 19) 0 = none) : overlap_M μ = -9 := by unfold overlap_M; rw [h]
theorem ovl_s {μ : Sx} {a b : Nat} (h : fnd (fun a => (ovA μ a).isSome) (μ.1 19) 0 = some a) (h2 : ovA μ a = some b) : overlap_M μ = nI (10 * a + b) := by unfold overlap_M; rw [h]; dsimp only; rw [h2]

set_option maxHeartbeats 1000000 in
set_option maxRecDepth 100000 in
theorem c_X7_lay (l : Launch) (G : Gt) (om : Nat) (μ : Sx) (p : Int32) (x : Int32) (y : Int32) (h0 : MI0 μ) (hl0 : MIl μ) : Ct l G yX7_lay cX7_lay 4 ((some .int)) 2 0 0 [.ref om, .int p, .int x, .int y] (fun H => bk G om (mL G om μ) H) (some (.int ((lay_M μ p x y).1))) (fun H => bk G om (mL G om ((lay_M μ p x y).2)) H) (fun q => om ≤ q ∧ q < om + 20) := by
  refine ct_entry [(0, .ref om), (1, .int p), (2, .int x), (3, .int y)] (by decide) (Nat.le_of_ble_eq_true rfl) rfl ?_
  intro zp ze zs zm za zb zt zc Q S hK hPre hin hE ls hl
  have hx := S.1
  have hb := S.2.1
  have hM := hPre
  have hS : va_S (fun q => om ≤ q ∧ q < om + 20) zs.heap zs.heap [] := va_S.rf
  have hp24 := h0.1
  have hl10 := hl0.1
  refine lv_aload_n hx hb dX7_lay_0 rfl (lv_at hl 0 rfl) ?_
  refine lv_iload_n hx hb dX7_lay_1 rfl (lv_at hl 1 rfl) ?_
  refine crV (rest := []) S hK (c_X7_isPart l G om μ p (by first | assumption | omega | decide)) cw_X7_103 rfl ⟨Nat.le_of_ble_eq_true rfl, Nat.le_of_ble_eq_true rfl⟩ ⟨Nat.le_of_ble_eq_true rfl, Nat.le_of_ble_eq_true rfl⟩ (bk.recv hK hM rfl rfl) hl.1 rfl (Nat.le_of_ble_eq_true rfl) dX7_lay_2 hM ?_
  refine z_if_ne (tgt := 14) hx hb dX7_lay_5 (by decide) (fun c_5 => ?_) (fun c_5 => ?_)
  ·
    obtain ⟨vp, hvp, rfl⟩ := inI_x c_5
    obtain ⟨hw1, hw5, hh1, hh4, hf5, hcl⟩ := h0.2 vp hvp
    have hcp := cx_n (j := vp) (by omega)
    refine lv_iload_n hx hb dX7_lay_14 rfl (lv_at hl 2 rfl) ?_
    refine lv_if_lt (tgt := 22) hx hb dX7_lay_15 (by decide) (fun c_15 => ?_) (fun c_15 => ?_)
    ·
      refine lv_aload_n hx hb dX7_lay_22 rfl (lv_at hl 0 rfl) ?_
      refine lv_bipush (v := (-4)) hx hb dX7_lay_23 (by decide) ?_
      refine ctV (rest := []) S hK (c_X7_refuse l G om μ (-4) 4 (by first | assumption | omega | decide) (by first | assumption | omega | decide)) cw_X7_72 rfl ⟨Nat.le_of_ble_eq_true rfl, Nat.le_of_ble_eq_true rfl⟩ ⟨Nat.le_of_ble_eq_true rfl, Nat.le_of_ble_eq_true rfl⟩ (bk.recv hK hM rfl rfl) hl.1 rfl (Nat.le_of_ble_eq_true rfl) dX7_lay_25 hM hS (fun _ h => h) (fun H locs hPost hz hk hS => ?_)
      have hM := hPost
      have hr : lay_M μ (nI vp) x y = ((-4), uA μ 0 4 (μ.2.1 0 4 + 1)) := by unfold lay_M; rw [c_5, if_pos rfl, if_pos (by first | exact Or.inl c_15 | exact Or.inr c_19)]
      refine w_top (v' := .int ((lay_M μ (nI vp) x y).1)) (congrArg (fun z => Value.int z) (congrArg Prod.fst hr).symm) ?_
      replace hM := bk_eq hM (show mL G om (uA μ 0 4 (μ.2.1 0 4 + 1)) = mL G om ((lay_M μ (nI vp) x y).2) from by rw [hr])
      exact hE _ _ _ _ _ _ (kr_i dX7_lay_28) hS (by decide) (by decide) hM
    ·
      refine lv_iload_n hx hb dX7_lay_18 rfl (lv_at hl 3 rfl) ?_
      refine lv_if_ge (tgt := 29) hx hb dX7_lay_19 (by decide) (fun c_19 => ?_) (fun c_19 => ?_)
      ·
        obtain ⟨vx, hvx, rfl⟩ := nI_of c_15
        obtain ⟨vy, hvy, rfl⟩ := nI_of (Int32.not_lt.mpr c_19)
        have hcxx := cx_n (j := vx) (by omega)
        have hcyy := cx_n (j := vy) (by omega)
        have hno : ¬ (nI vx < 0 ∨ ¬ 0 ≤ nI vy) := by rintro (z | z); exact c_15 z; exact z c_19
        refine lv_iload_n hx hb dX7_lay_29 rfl (lv_at hl 2 rfl) ?_
        refine lv_bipush (v := nI 12) hx hb dX7_lay_30 (by decide) ?_
        refine lv_aload_n hx hb dX7_lay_32 rfl (lv_at hl 0 rfl) ?_
        refine kg (C := RX7) (T := TX7) (N := 32) (ci := 5) (k := 1) (v := .ref (om + 2)) S hK rfl inX7 (by decide) q_731 dX7_lay_33 hM rfl rfl ?_
        refine lv_iload_n hx hb dX7_lay_36 rfl (lv_at hl 1 rfl) ?_
        refine kil (f := μ.2.1 1) S hK dX7_lay_37 2 hM rfl (by decide) rfl (by omega) ?_
        refine n_isub hx hb dX7_lay_38 (by omega) ?_
        refine n_icmp_gt (tgt := 64) hx hb dX7_lay_39 (by decide) (by omega) (by omega) (fun c_39 => ?_) (fun c_39 => ?_)
        ·
          refine lv_aload_n hx hb dX7_lay_64 rfl (lv_at hl 0 rfl) ?_
          refine lv_bipush (v := (-6)) hx hb dX7_lay_65 (by decide) ?_
          refine ctV (rest := []) S hK (c_X7_refuse l G om μ (-6) 6 (by first | assumption | omega | decide) (by first | assumption | omega | decide)) cw_X7_72 rfl ⟨Nat.le_of_ble_eq_true rfl, Nat.le_of_ble_eq_true rfl⟩ ⟨Nat.le_of_ble_eq_true rfl, Nat.le_of_ble_eq_true rfl⟩ (bk.recv hK hM rfl rfl) hl.1 rfl (Nat.le_of_ble_eq_true rfl) dX7_lay_67 hM hS (fun _ h => h) (fun H locs hPost hz hk hS => ?_)
          have hM := hPost
          have hr : lay_M μ (nI vp) (nI vx) (nI vy) = ((-6), uA μ 0 6 (μ.2.1 0 6 + 1)) := by unfold lay_M; rw [c_5, if_pos rfl, if_neg hno, hcp, hcxx, hcyy, if_pos (by omega)]
          refine w_top (v' := .int ((lay_M μ (nI vp) (nI vx) (nI vy)).1)) (congrArg (fun z => Value.int z) (congrArg Prod.fst hr).symm) ?_
          replace hM := bk_eq hM (show mL G om (uA μ 0 6 (μ.2.1 0 6 + 1)) = mL G om ((lay_M μ (nI vp) (nI vx) (nI vy)).2) from by rw [hr])
          exact hE _ _ _ _ _ _ (kr_i dX7_lay_70) hS (by decide) (by decide) hM
        ·
          refine lv_iload_n hx hb dX7_lay_42 rfl (lv_at hl 3 rfl) ?_
          refine lv_bipush (v := nI 12) hx hb dX7_lay_43 (by decide) ?_
          refine lv_aload_n hx hb dX7_lay_45 rfl (lv_at hl 0 rfl) ?_
          refine kg (C := RX7) (T := TX7) (N := 32) (ci := 5) (k := 2) (v := .ref (om + 3)) S hK rfl inX7 (by decide) q_732 dX7_lay_46 hM rfl rfl ?_
          refine lv_iload_n hx hb dX7_lay_49 rfl (lv_at hl 1 rfl) ?_
          refine kil (f := μ.2.1 2) S hK dX7_lay_50 3 hM rfl (by decide) rfl (by omega) ?_
          refine n_isub hx hb dX7_lay_51 (by omega) ?_
          refine n_icmp_gt (tgt := 64) hx hb dX7_lay_52 (by decide) (by omega) (by omega) (fun c_52 => ?_) (fun c_52 => ?_)
          ·
            refine lv_aload_n hx hb dX7_lay_64 rfl (lv_at hl 0 rfl) ?_
            refine lv_bipush (v := (-6)) hx hb dX7_lay_65 (by decide) ?_
            refine ctV (rest := []) S hK (c_X7_refuse l G om μ (-6) 6 (by first | assumption | omega | decide) (by first | assumption | omega | decide)) cw_X7_72 rfl ⟨Nat.le_of_ble_eq_true rfl, Nat.le_of_ble_eq_true rfl⟩ ⟨Nat.le_of_ble_eq_true rfl, Nat.le_of_ble_eq_true rfl⟩ (bk.recv hK hM rfl rfl) hl.1 rfl (Nat.le_of_ble_eq_true rfl) dX7_lay_67 hM hS (fun _ h => h) (fun H locs hPost hz hk hS => ?_)
            have hM := hPost
            have hr : lay_M μ (nI vp) (nI vx) (nI vy) = ((-6), uA μ 0 6 (μ.2.1 0 6 + 1)) := by unfold lay_M; rw [c_5, if_pos rfl, if_neg hno, hcp, hcxx, hcyy, if_pos (by omega)]
            refine w_top (v' := .int ((lay_M μ (nI vp) (nI vx) (nI vy)).1)) (congrArg (fun z => Value.int z) (congrArg Prod.fst hr).symm) ?_
            replace hM := bk_eq hM (show mL G om (uA μ 0 6 (μ.2.1 0 6 + 1)) = mL G om ((lay_M μ (nI vp) (nI vx) (nI vy)).2) from by rw [hr])
            exact hE _ _ _ _ _ _ (kr_i dX7_lay_70) hS (by decide) (by decide) hM
          ·
            refine lv_aload_n hx hb dX7_lay_55 rfl (lv_at hl 0 rfl) ?_
            refine kg (C := RX7) (T := TX7) (N := 32) (ci := 5) (k := 19) (v := .int (nI (μ.1 19))) S hK rfl inX7 (by decide) q_749 dX7_lay_56 hM rfl rfl ?_
            refine lv_bipush (v := nI 10) hx hb dX7_lay_59 (by decide) ?_
            refine n_icmp_ne (tgt := 71) hx hb dX7_lay_61 (by decide) (by omega) (by decide) (fun c_61 => ?_) (fun c_61 => ?_)
            ·
              refine lv_aload_n hx hb dX7_lay_71 rfl (lv_at hl 0 rfl) ?_
              refine kg (C := RX7) (T := TX7) (N := 32) (ci := 5) (k := 12) (v := .ref (om + 13)) S hK rfl inX7 (by decide) q_742 dX7_lay_72 hM rfl rfl ?_
              refine lv_aload_n hx hb dX7_lay_75 rfl (lv_at hl 0 rfl) ?_
              refine kg (C := RX7) (T := TX7) (N := 32) (ci := 5) (k := 19) (v := .int (nI (μ.1 19))) S hK rfl inX7 (by decide) q_749 dX7_lay_76 hM rfl rfl ?_
              refine lv_iload_n hx hb dX7_lay_79 rfl (lv_at hl 1 rfl) ?_
              refine kis S hK dX7_lay_80 13 hM rfl (by decide) rfl (by omega) rfl (L1 := mL G om (uA μ 12 (μ.1 19) vp)) rfl hS (by first | exact ⟨by omega, by omega⟩ | omega) (fun H locs hM hS hz hk => ?_)
              refine lv_aload_n hx hb dX7_lay_81 rfl (lv_at hl 0 rfl) ?_
              refine kg (C := RX7) (T := TX7) (N := 32) (ci := 5) (k := 13) (v := .ref (om + 14)) S hK rfl inX7 (by decide) q_743 dX7_lay_82 hM rfl rfl ?_
              refine lv_aload_n hx hb dX7_lay_85 rfl (lv_at hl 0 rfl) ?_
              refine kg (C := RX7) (T := TX7) (N := 32) (ci := 5) (k := 19) (v := .int (nI (μ.1 19))) S hK rfl inX7 (by decide) q_749 dX7_lay_86 hM rfl rfl ?_
              refine lv_iload_n hx hb dX7_lay_89 rfl (lv_at hl 2 rfl) ?_
              refine kis S hK dX7_lay_90 14 hM rfl (by decide) rfl (by omega) rfl (L1 := mL G om (uA (uA μ 12 (μ.1 19) vp) 13 (μ.1 19) vx)) rfl hS (by first | exact ⟨by omega, by omega⟩ | omega) (fun H locs hM hS hz hk => ?_)
              refine lv_aload_n hx hb dX7_lay_91 rfl (lv_at hl 0 rfl) ?_
              refine kg (C := RX7) (T := TX7) (N := 32) (ci := 5) (k := 14) (v := .ref (om + 15)) S hK rfl inX7 (by decide) q_744 dX7_lay_92 hM rfl rfl ?_
              refine lv_aload_n hx hb dX7_lay_95 rfl (lv_at hl 0 rfl) ?_
              refine kg (C := RX7) (T := TX7) (N := 32) (ci := 5) (k := 19) (v := .int (nI (μ.1 19))) S hK rfl inX7 (by decide) q_749 dX7_lay_96 hM rfl rfl ?_
              refine lv_iload_n hx hb dX7_lay_99 rfl (lv_at hl 3 rfl) ?_
              refine kis S hK dX7_lay_100 15 hM rfl (by decide) rfl (by omega) rfl (L1 := mL G om (uA (uA (uA μ 12 (μ.1 19) vp) 13 (μ.1 19) vx) 14 (μ.1 19) vy)) rfl hS (by first | exact ⟨by omega, by omega⟩ | omega) (fun H locs hM hS hz hk => ?_)
              refine lv_aload_n hx hb dX7_lay_101 rfl (lv_at hl 0 rfl) ?_
              refine lv_dup hx hb dX7_lay_102 rfl ?_
              refine kg (C := RX7) (T := TX7) (N := 32) (ci := 5) (k := 19) (v := .int (nI (μ.1 19))) S hK rfl inX7 (by decide) q_749 dX7_lay_103 hM rfl rfl ?_
              refine lv_iconst (v := nI 1) hx hb dX7_lay_106 (by decide) ?_
              refine n_iadd hx hb dX7_lay_107 ?_
              refine kp (C := RX7) (T := TX7) (N := 32) (ci := 5) (k := 19) (ty := .int) tyX7 tyX7_ok nmX7 S hK rfl inX7 (by decide) q_749 rfl dX7_lay_108 rfl rfl rfl hM rfl (Nat.le_of_ble_eq_true rfl) (L1 := mL G om (uS (uA (uA (uA μ 12 (μ.1 19) vp) 13 (μ.1 19) vx) 14 (μ.1 19) vy) 19 ((μ.1 19) + 1))) rfl hS (by first | exact ⟨by omega, by omega⟩ | omega) (fun H locs hM hS hz hk => ?_)
              refine lv_aload_n hx hb dX7_lay_111 rfl (lv_at hl 0 rfl) ?_
              refine kg (C := RX7) (T := TX7) (N := 32) (ci := 5) (k := 19) (v := .int (nI ((μ.1 19) + 1))) S hK rfl inX7 (by decide) q_749 dX7_lay_112 hM rfl rfl ?_
              refine lv_iconst (v := nI 1) hx hb dX7_lay_115 (by decide) ?_
              refine n_isub hx hb dX7_lay_116 (by show 1 ≤ μ.1 19 + 1; omega) ?_
              have hr : lay_M μ (nI vp) (nI vx) (nI vy) = (nI (((μ.1 19) + 1) - 1), uS (uA (uA (uA μ 12 (μ.1 19) vp) 13 (μ.1 19) vx) 14 (μ.1 19) vy) 19 ((μ.1 19) + 1)) := by unfold lay_M; rw [c_5, if_pos rfl, if_neg hno, hcp, hcxx, hcyy, if_neg (by omega)]; rfl
              refine w_top (v' := .int ((lay_M μ (nI vp) (nI vx) (nI vy)).1)) (congrArg (fun z => Value.int z) (congrArg Prod.fst hr).symm) ?_
              replace hM := bk_eq hM (show mL G om (uS (uA (uA (uA μ 12 (μ.1 19) vp) 13 (μ.1 19) vx) 14 (μ.1 19) vy) 19 ((μ.1 19) + 1)) = mL G om ((lay_M μ (nI vp) (nI vx) (nI vy)).2) from by rw [hr])
              exact hE _ _ _ _ _ _ (kr_i dX7_lay_117) hS (by decide) (by decide) hM
            ·
              refine lv_aload_n hx hb dX7_lay_64 rfl (lv_at hl 0 rfl) ?_
              refine lv_bipush (v := (-6)) hx hb dX7_lay_65 (by decide) ?_
              refine ctV (rest := []) S hK (c_X7_refuse l G om μ (-6) 6 (by first | assumption | omega | decide) (by first | assumption | omega | decide)) cw_X7_72 rfl ⟨Nat.le_of_ble_eq_true rfl, Nat.le_of_ble_eq_true rfl⟩ ⟨Nat.le_of_ble_eq_true rfl, Nat.le_of_ble_eq_true rfl⟩ (bk.recv hK hM rfl rfl) hl.1 rfl (Nat.le_of_ble_eq_true rfl) dX7_lay_67 hM hS (fun _ h => h) (fun H locs hPost hz hk hS => ?_)
              have hM := hPost
              have hr : lay_M μ (nI vp) (nI vx) (nI vy) = ((-6), uA μ 0 6 (μ.2.1 0 6 + 1)) := by unfold lay_M; rw [c_5, if_pos rfl, if_neg hno, hcp, hcxx, hcyy, if_pos (by omega)]
              refine w_top (v' := .int ((lay_M μ (nI vp) (nI vx) (nI vy)).1)) (congrArg (fun z => Value.int z) (congrArg Prod.fst hr).symm) ?_
              replace hM := bk_eq hM (show mL G om (uA μ 0 6 (μ.2.1 0 6 + 1)) = mL G om ((lay_M μ (nI vp) (nI vx) (nI vy)).2) from by rw [hr])
              exact hE _ _ _ _ _ _ (kr_i dX7_lay_70) hS (by decide) (by decide) hM
      ·
        refine lv_aload_n hx hb dX7_lay_22 rfl (lv_at hl 0 rfl) ?_
        refine lv_bipush (v := (-4)) hx hb dX7_lay_23 (by decide) ?_
        refine ctV (rest := []) S hK (c_X7_refuse l G om μ (-4) 4 (by first | assumption | omega | decide) (by first | assumption | omega | decide)) cw_X7_72 rfl ⟨Nat.le_of_ble_eq_true rfl, Nat.le_of_ble_eq_true rfl⟩ ⟨Nat.le_of_ble_eq_true rfl, Nat.le_of_ble_eq_true rfl⟩ (bk.recv hK hM rfl rfl) hl.1 rfl (Nat.le_of_ble_eq_true rfl) dX7_lay_25 hM hS (fun _ h => h) (fun H locs hPost hz hk hS => ?_)
        have hM := hPost
        have hr : lay_M μ (nI vp) x y = ((-4), uA μ 0 4 (μ.2.1 0 4 + 1)) := by unfold lay_M; rw [c_5, if_pos rfl, if_pos (by first | exact Or.inl c_15 | exact Or.inr c_19)]
        refine w_top (v' := .int ((lay_M μ (nI vp) x y).1)) (congrArg (fun z => Value.int z) (congrArg Prod.fst hr).symm) ?_
        replace hM := bk_eq hM (show mL G om (uA μ 0 4 (μ.2.1 0 4 + 1)) = mL G om ((lay_M μ (nI vp) x y).2) from by rw [hr])
        exact hE _ _ _ _ _ _ (kr_i dX7_lay_28) hS (by decide) (by decide) hM
  ·
    refine lv_aload_n hx hb dX7_lay_8 rfl (lv_at hl 0 rfl) ?_
    refine lv_iconst (v := (-1)) hx hb dX7_lay_9 (by decide) ?_
    refine ctV (rest := []) S hK (c_X7_refuse l G om μ (-1) 1 (by first | assumption | omega | decide) (by first | assumption | omega | decide)) cw_X7_72 rfl ⟨Nat.le_of_ble_eq_true rfl, Nat.le_of_ble_eq_true rfl⟩ ⟨Nat.le_of_ble_eq_true rfl, Nat.le_of_ble_eq_true rfl⟩ (bk.recv hK hM rfl rfl) hl.1 rfl (Nat.le_of_ble_eq_true rfl) dX7_lay_10 hM hS (fun _ h => h) (fun H locs hPost hz hk hS => ?_)
    have hM := hPost
    have hr : lay_M μ p x y = ((-1), uA μ 0 1 (μ.2.1 0 1 + 1)) := by unfold lay_M; rw [c_5]; rfl
    refine w_top (v' := .int ((lay_M μ p x y).1)) (congrArg (fun z => Value.int z) (congrArg Prod.fst hr).symm) ?_
    replace hM := bk_eq hM (show mL G om (uA μ 0 1 (μ.2.1 0 1 + 1)) = mL G om ((lay_M μ p x y).2) from by rw [hr])
    exact hE _ _ _ _ _ _ (kr_i dX7_lay_13) hS (by decide) (by decide) hM

set_option maxHeartbeats 1000000 in
set_option maxRecDepth 100000 in
theorem c_X7_on (l : Launch) (G : Gt) (om : Nat) (μ : Sx) (k : Nat) (x : Nat) (y : Nat) (h0 : MI0 μ) (hl0 : MIl μ) (hk0 : k < μ.1 19) (hx12 : x < 12) (hy12 : y < 12) : Cr l G yX7_on cX7_on 7 ((some .int)) 1 [.ref om, .int (nI k), .int (nI x), .int (nI y)] (fun H => bk G om (mL G om μ) H) (some (.int (nI (onM μ k x y)))) := by
  refine cr_entry [(0, .ref om), (1, .int (nI k)), (2, .int (nI x)), (3, .int (nI y))] (by decide) (Nat.le_of_ble_eq_true rfl) rfl ?_
  intro zp ze zs zm za zb zt zc Q S hK hPre hE ls hl
  have hx := S.1
  have hb := S.2.1
  have hM := hPre
  have hp24 := h0.1
  have hl10 := hl0.1
  obtain ⟨hkp, hkx, hky⟩ := hl0.2 k hk0
  obtain ⟨hw1, hw5, hh1, hh4, hf5, hcl⟩ := h0.2 _ hkp
  refine lv_aload_n hx hb dX7_on_0 rfl (lv_at hl 0 rfl) ?_
  refine kg (C := RX7) (T := TX7) (N := 32) (ci := 5) (k := 12) (v := .ref (om + 13)) S hK rfl inX7 (by decide) q_742 dX7_on_1 hM rfl rfl ?_
  refine lv_iload_n hx hb dX7_on_4 rfl (lv_at hl 1 rfl) ?_
  refine kil (f := μ.2.1 12) S hK dX7_on_5 13 hM rfl (by decide) rfl (by omega) ?_
  refine lv_istore (lv' := [(4, .int (nI (μ.2.1 12 k))), (0, .ref om), (1, .int (nI k)), (2, .int (nI x)), (3, .int (nI y))]) hx hb dX7_on_6 hl (by decide) rfl (fun ls hl => ?_)
  refine lv_iload_n hx hb dX7_on_8 rfl (lv_at hl 3 rfl) ?_
  refine lv_aload_n hx hb dX7_on_9 rfl (lv_at hl 1 rfl) ?_
  refine kg (C := RX7) (T := TX7) (N := 32) (ci := 5) (k := 13) (v := .ref (om + 14)) S hK rfl inX7 (by decide) q_743 dX7_on_10 hM rfl rfl ?_
  refine lv_iload_n hx hb dX7_on_13 rfl (lv_at hl 2 rfl) ?_
  refine kil (f := μ.2.1 13) S hK dX7_on_14 14 hM rfl (by decide) rfl (by omega) ?_
  refine lv_isub hx hb dX7_on_15 ?_
  refine lv_istore (lv' := [(5, .int ((nI x) - (nI (μ.2.1 13 k)))), (4, .int (nI (μ.2.1 12 k))), (0, .ref om), (1, .int (nI k)), (2, .int (nI x)), (3, .int (nI y))]) hx hb dX7_on_16 hl (by decide) rfl (fun ls hl => ?_)
  refine lv_iload_n hx hb dX7_on_18 rfl (lv_at hl 5 rfl) ?_
  refine lv_aload_n hx hb dX7_on_19 rfl (lv_at hl 2 rfl) ?_
  refine kg (C := RX7) (T := TX7) (N := 32) (ci := 5) (k := 14) (v := .ref (om + 15)) S hK rfl inX7 (by decide) q_744 dX7_on_20 hM rfl rfl ?_
  refine lv_iload_n hx hb dX7_on_23 rfl (lv_at hl 3 rfl) ?_
  refine kil (f := μ.2.1 14) S hK dX7_on_24 15 hM rfl (by decide) rfl (by omega) ?_
  refine lv_isub hx hb dX7_on_25 ?_
  refine lv_istore (lv' := [(6, .int ((nI y) - (nI (μ.2.1 14 k)))), (5, .int ((nI x) - (nI (μ.2.1 13 k)))), (4, .int (nI (μ.2.1 12 k))), (0, .ref om), (1, .int (nI k)), (2, .int (nI x)), (3, .int (nI y))]) hx hb dX7_on_26 hl (by decide) rfl (fun ls hl => ?_)
  refine lv_iload hx hb dX7_on_28 (lv_at hl 1 rfl) ?_
  refine lv_aload_n hx hb dX7_on_30 rfl (lv_at hl 3 rfl) ?_
  refine kg (C := RX7) (T := TX7) (N := 32) (ci := 5) (k := 1) (v := .ref (om + 2)) S hK rfl inX7 (by decide) q_731 dX7_on_31 hM rfl rfl ?_
  refine lv_iload hx hb dX7_on_34 (lv_at hl 2 rfl) ?_
  refine kil (f := μ.2.1 1) S hK dX7_on_36 2 hM rfl (by decide) rfl (by omega) ?_
  refine crS (rest := []) S hK (c_X7_isIn l G ((nI x) - (nI (μ.2.1 13 k))) (μ.2.1 1 (μ.2.1 12 k)) (by omega)) cw_X7_80 rfl ⟨Nat.le_of_ble_eq_true rfl, Nat.le_of_ble_eq_true rfl⟩ ⟨Nat.le_of_ble_eq_true rfl, Nat.le_of_ble_eq_true rfl⟩ hl.1 rfl (Nat.le_of_ble_eq_true rfl) dX7_on_37 trivial ?_
  refine z_if_eq (tgt := 71) hx hb dX7_on_40 (by decide) (fun c_40 => ?_) (fun c_40 => ?_)
  ·
    have hr : 0 = onM μ k x y := by
      rw [inI_sub (by omega) (by omega)] at c_40
      unfold onM
      rw [if_neg]
      rintro ⟨⟨z1, z2⟩, -⟩
      rw [decide_eq_true z1, decide_eq_true z2] at c_40
      cases c_40
    refine lv_iconst (v := nI 0) hx hb dX7_on_71 (by decide) ?_
    refine w_top (v' := .int (nI (onM μ k x y))) (congrArg (fun z => Value.int (nI z)) (show 0 = (onM μ k x y) from hr)) ?_
    exact hE _ _ (kr_i dX7_on_72)
  ·
    refine lv_iload hx hb dX7_on_43 (lv_at hl 0 rfl) ?_
    refine lv_aload_n hx hb dX7_on_45 rfl (lv_at hl 3 rfl) ?_
    refine kg (C := RX7) (T := TX7) (N := 32) (ci := 5) (k := 2) (v := .ref (om + 3)) S hK rfl inX7 (by decide) q_732 dX7_on_46 hM rfl rfl ?_
    refine lv_iload hx hb dX7_on_49 (lv_at hl 2 rfl) ?_
    refine kil (f := μ.2.1 2) S hK dX7_on_51 3 hM rfl (by decide) rfl (by omega) ?_
    refine crS (rest := []) S hK (c_X7_isIn l G ((nI y) - (nI (μ.2.1 14 k))) (μ.2.1 2 (μ.2.1 12 k)) (by omega)) cw_X7_80 rfl ⟨Nat.le_of_ble_eq_true rfl, Nat.le_of_ble_eq_true rfl⟩ ⟨Nat.le_of_ble_eq_true rfl, Nat.le_of_ble_eq_true rfl⟩ hl.1 rfl (Nat.le_of_ble_eq_true rfl) dX7_on_52 trivial ?_
    refine z_if_eq (tgt := 71) hx hb dX7_on_55 (by decide) (fun c_55 => ?_) (fun c_55 => ?_)
    ·
      have hr : 0 = onM μ k x y := by
        rw [inI_sub (by omega) (by omega)] at c_55
        unfold onM
        rw [if_neg]
        rintro ⟨-, z1, z2⟩
        rw [decide_eq_true z1, decide_eq_true z2] at c_55
        cases c_55
      refine lv_iconst (v := nI 0) hx hb dX7_on_71 (by decide) ?_
      refine w_top (v' := .int (nI (onM μ k x y))) (congrArg (fun z => Value.int (nI z)) (show 0 = (onM μ k x y) from hr)) ?_
      exact hE _ _ (kr_i dX7_on_72)
    ·
      rw [inI_sub (by omega) (by omega)] at c_40 c_55
      simp only [Bool.and_eq_true, decide_eq_true_eq] at c_40 c_55
      have hr : clM μ (μ.2.1 12 k) (5 * (y - μ.2.1 14 k) + (x - μ.2.1 13 k)) = onM μ k x y := by unfold onM; rw [if_pos ⟨c_40, c_55⟩]
      refine lv_aload_n hx hb dX7_on_58 rfl (lv_at hl 3 rfl) ?_
      refine lv_iload hx hb dX7_on_59 (lv_at hl 2 rfl) ?_
      refine lv_iload hx hb dX7_on_61 (lv_at hl 1 rfl) ?_
      refine w_top (v' := .int (nI (x - μ.2.1 13 k))) (congrArg (fun z => Value.int z) (nI_subN c_40.1 (by omega))) ?_
      refine lv_iload hx hb dX7_on_63 (lv_at hl 0 rfl) ?_
      refine w_top (v' := .int (nI (y - μ.2.1 14 k))) (congrArg (fun z => Value.int z) (nI_subN c_55.1 (by omega))) ?_
      refine crV (rest := []) S hK (c_X7_at l G om μ (μ.2.1 12 k) (x - μ.2.1 13 k) (y - μ.2.1 14 k) (by omega)) cw_X7_112 rfl ⟨Nat.le_of_ble_eq_true rfl, Nat.le_of_ble_eq_true rfl⟩ ⟨Nat.le_of_ble_eq_true rfl, Nat.le_of_ble_eq_true rfl⟩ (bk.recv hK hM rfl rfl) hl.1 rfl (Nat.le_of_ble_eq_true rfl) dX7_on_65 hM ?_
      refine lv_goto (tgt := 72) hx hb dX7_on_68 (by decide) ?_
      refine w_top (v' := .int (nI (onM μ k x y))) (congrArg (fun z => Value.int (nI z)) (show (clM μ (μ.2.1 12 k) (5 * (y - μ.2.1 14 k) + (x - μ.2.1 13 k))) = (onM μ k x y) from hr)) ?_
      exact hE _ _ (kr_i dX7_on_72)
