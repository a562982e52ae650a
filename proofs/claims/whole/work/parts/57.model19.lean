
/-! walks: the reference's floorNet -/
def flP (μ : Sx) (n : Nat) (σ : Sx) : Nat → Sx
  | 0 => σ
  | k + 1 => uA (flP μ n σ k) 9 (8 * n + k) (μ.2.1 12 k)
def fl1 (μ : Sx) (n k : Nat) (σ : Sx) : Nat → Sx
  | 0 => σ
  | f + 1 => if mtC μ k f then addM (fl1 μ n k σ f) n (10 * k + f) (cx (metM μ k f 0)) else fl1 μ n k σ f
def flN (μ : Sx) (n : Nat) (σ : Sx) : Nat → Sx
  | 0 => σ
  | k + 1 => fl1 μ n k (flN μ n σ k) (fcL μ k)
abbrev fl0 (μ : Sx) : Sx := uA (uA (uS μ 18 (μ.1 18 + 1)) 7 (μ.1 18) (μ.1 19)) 8 (μ.1 18) 0
abbrev flE (μ : Sx) : Sx := flN μ (μ.1 18) (flP μ (μ.1 18) (fl0 μ) (μ.1 19)) (μ.1 19)
def floorNet_M (μ : Sx) : Int32 × Sx := if μ.1 19 = 0 ∨ ¬ overlap_M μ < 0 ∨ ¬ leak_M μ < 0 then (-3, rfM μ 3) else if μ.1 18 = 6 ∨ 8 < μ.1 19 ∨ 12 < fcN (fcL μ) (mtC μ) (μ.1 19) then (-6, rfM μ 6) else (nI (μ.1 18), flE μ)
/-- the same PARTS and the same FLOOR -/
def sFl (ν μ : Sx) : Prop := ν.1 19 = μ.1 19 ∧ ν.1 16 = μ.1 16 ∧ ν.2.1 1 = μ.2.1 1 ∧ ν.2.1 2 = μ.2.1 2 ∧ ν.2.1 3 = μ.2.1 3 ∧ ν.2.1 4 = μ.2.1 4 ∧ ν.2.1 12 = μ.2.1 12 ∧ ν.2.1 13 = μ.2.1 13 ∧ ν.2.1 14 = μ.2.1 14
section SFL
variable {ν μ : Sx}
theorem onM_c (h : sFl ν μ) (k x y : Nat) : onM ν k x y = onM μ k x y := by
  obtain ⟨h19, h16, h1, h2, h3, h4, h12, h13, h14⟩ := h
  unfold onM clM
  rw [h1, h2, h4, h12, h13, h14]
theorem plM_c (h : sFl ν μ) (k f : Nat) : plM ν k f = plM μ k f := fnd_congr _ _ fun i _ _ => by
  show decide (onM ν k (i / 12) (i % 12) = 10 + f) = decide (onM μ k (i / 12) (i % 12) = 10 + f)
  rw [onM_c h]
theorem plN_c (h : sFl ν μ) (k f : Nat) : plN ν k f = plN μ k f := by
  unfold plN
  rw [plM_c h]
theorem fcL_c (h : sFl ν μ) : fcL ν = fcL μ := by
  funext k
  show ν.2.1 3 (ν.2.1 12 k) = μ.2.1 3 (μ.2.1 12 k)
  rw [h.2.2.2.2.1, h.2.2.2.2.2.2.1]
theorem mtZ_c (h : sFl ν μ) (k f : Nat) : mtZ ν k f = mtZ μ k f := by
  funext a g
  unfold mtZ
  rw [plN_c h, plN_c h]
theorem metM_c (h : sFl ν μ) (k f i : Nat) : metM ν k f i = metM μ k f i := by
  show frW (ν.1 19) (fcL ν) (mtZ ν k f) (nI i) (-9) 100 0 0 0 = _
  rw [h.1, fcL_c h, mtZ_c h]
theorem MI0_c (h : sFl ν μ) (q : MI0 μ) : MI0 ν := by
  obtain ⟨h19, h16, h1, h2, h3, h4, h12, h13, h14⟩ := h
  unfold MI0 clM
  rw [h16, h1, h2, h3, h4]
  exact q
theorem MIl_c (h : sFl ν μ) (q : MIl μ) : MIl ν := by
  obtain ⟨h19, h16, h1, h2, h3, h4, h12, h13, h14⟩ := h
  unfold MIl
  rw [h19, h16, h1, h2, h12, h13, h14]
  exact q
theorem MIg_c (h : sFl ν μ) (q : MIg μ) : MIg ν := by
  intro a ha g hg
  rw [h.1] at ha
  rw [fcL_c h] at hg
  obtain ⟨i, hi⟩ := q a ha g hg
  exact ⟨i, (plM_c h a g).trans hi⟩
end SFL
theorem mtC_o {μ : Sx} (hb : MIb μ) (hl : MIl μ) {k f a g : Nat} (hk : k < μ.1 19) (hf : f ≤ 4) (ha : a < μ.1 19) (hg : g ≤ 4) (hne : ¬ a = k) (hq : metM μ k f 0 = nI (10 * a + g)) : mtC μ k f = decide (k ≤ (10 * a + g) / 10) := by
  have h10 := hl.1
  have e := mtC_e hb hl hk hf
  rw [hq, Int32.le_iff_toInt_le, nI_toInt (by omega), nI_toInt (by omega)] at e
  by_cases h : k ≤ (10 * a + g) / 10
  · rw [decide_eq_true h]
    cases hz : mtC μ k f
    · have := e.mpr hz
      omega
    · rfl
  · rw [decide_eq_false h]
    exact e.mp (by omega)
theorem mtC_9 {μ : Sx} {k f : Nat} (hk : k < 2 ^ 31) (hq : metM μ k f 0 = -9) : mtC μ k f = false := by
  show (!decide (metM μ k f 0 / nI 10 ≤ nI k)) = false
  rw [hq, Bool.not_eq_false', decide_eq_true_eq, Int32.le_iff_toInt_le, nI_toInt hk]
  have e : ((-9 : Int32) / nI 10).toInt = 0 := by decide
  omega
theorem fl1_y {μ σ : Sx} {n k f a : Nat} (h : mtC μ k f = true) (hq : metM μ k f 0 = nI a) (ha : a < 2 ^ 31) : fl1 μ n k σ (f + 1) = addM (fl1 μ n k σ f) n (10 * k + f) a := by
  show (if mtC μ k f then addM (fl1 μ n k σ f) n (10 * k + f) (cx (metM μ k f 0)) else fl1 μ n k σ f) = _
  rw [if_pos h, hq, cx_n ha]
theorem fl1_n {μ σ : Sx} {n k f : Nat} (h : mtC μ k f = false) : fl1 μ n k σ (f + 1) = fl1 μ n k σ f := by
  show (if mtC μ k f then addM (fl1 μ n k σ f) n (10 * k + f) (cx (metM μ k f 0)) else fl1 μ n k σ f) = _
  rw [if_neg (by rw [h]; decide)]
theorem flP_8 (μ : Sx) : ∀ k, (flP μ (μ.1 18) (fl0 μ) k).2.1 8 (μ.1 18) = 0
  | 0 => uN_s _ _ _
  | k + 1 => flP_8 μ k
theorem fcN_5 {F : Nat → Nat} {Z : Nat → Nat → Bool} : ∀ P, (∀ k, k < P → F k ≤ 5) → fcN F Z P ≤ 5 * P
  | 0, _ => Nat.le_refl 0
  | P + 1, h => by
    have h1 := @fcN_5 F Z P (fun k hk => h k (by omega))
    have h2 := @fcN_le F Z P (F P)
    have h3 := h P (by omega)
    show fcN F Z P + fc1 Z P (F P) ≤ _
    omega
theorem fc_lt1 {F : Nat → Nat} {Z : Nat → Nat → Bool} {P k f : Nat} (hk : k < P) (hf : f < F k) (hz : Z k f = true) : fcN F Z k + fc1 Z k f + 1 ≤ fcN F Z P := by
  have h1 := @fc1_mono Z k (F k) (F k - (f + 1)) (f + 1) (by omega)
  have h2 := @fcN_mono F Z P (P - (k + 1)) (k + 1) (by omega)
  have e : fcN F Z (k + 1) = fcN F Z k + fc1 Z k (F k) := rfl
  have h3 := fc1_yes (Z := Z) (k := k) (f := f) hz
  omega

set_option maxHeartbeats 1000000 in
set_option maxRecDepth 100000 in
theorem c_X7_floorNet (l : Launch) (G : Gt) (om : Nat) (μ : Sx) (h0 : MI0 μ) (hl0 : MIl μ) (hb0 : MIb μ) (hI : MIn μ) : Ct l G yX7_floorNet cX7_floorNet 5 ((some .int)) 6 0 0 [.ref om] (fun H => bk G om (mL G om μ) H) (some (.int ((floorNet_M μ).1))) (fun H => bk G om (mL G om ((floorNet_M μ).2)) H) (fun q => om ≤ q ∧ q < om + 20) := by
  refine ct_entry [(0, .ref om)] (by decide) (Nat.le_of_ble_eq_true rfl) rfl ?_
  intro zp ze zs zm za zb zt zc Q S hK hPre hin hE ls hl
  have hx := S.1
  have hb := S.2.1
  have hM := hPre
  have hS : va_S (fun q => om ≤ q ∧ q < om + 20) zs.heap zs.heap [] := va_S.rf
  have hn18 := hI.1
  have hl10 := hl0.1
  have hg0 := mig hb0 hl0
  have hp16 := h0.1
  have hf50 := fcN_5 (F := fcL μ) (Z := mtC μ) (μ.1 19) (fun k hk => fcL_5 hb0 hl0 hk)
  refine lv_aload_n hx hb dX7_floorNet_0 rfl (lv_at hl 0 rfl) ?_
  refine kg (C := RX7) (T := TX7) (N := 32) (ci := 5) (k := 19) (v := .int (nI (μ.1 19))) S hK rfl inX7 (by decide) q_749 dX7_floorNet_1 hM rfl rfl ?_
  refine n_if_eq (tgt := 21) hx hb dX7_floorNet_4 (by decide) (by omega) (fun c_4 => ?_) (fun c_4 => ?_)
  ·
    refine lv_aload_n hx hb dX7_floorNet_21 rfl (lv_at hl 0 rfl) ?_
    refine lv_bipush (v := (-3)) hx hb dX7_floorNet_22 (by decide) ?_
    refine ctV (rest := []) S hK (c_X7_refuse l G om μ (-3) 3 (by first | assumption | omega | decide) (by first | assumption | omega | decide)) cw_X7_72 rfl ⟨Nat.le_of_ble_eq_true rfl, Nat.le_of_ble_eq_true rfl⟩ ⟨Nat.le_of_ble_eq_true rfl, Nat.le_of_ble_eq_true rfl⟩ (bk.recv hK hM rfl rfl) hl.1 rfl (Nat.le_of_ble_eq_true rfl) dX7_floorNet_24 hM hS (fun _ h => by first | exact h | omega) (fun H locs hPost hz hk hS => ?_)
    have hM := hPost
    have hr : floorNet_M μ = ((-3), uA μ 0 3 (μ.2.1 0 3 + 1)) := by unfold floorNet_M; simp [c_4]
    refine w_top (v' := .int ((floorNet_M μ).1)) (congrArg (fun z => Value.int z) (congrArg Prod.fst hr).symm) ?_
    replace hM := bk_eq hM (show mL G om (uA μ 0 3 (μ.2.1 0 3 + 1)) = mL G om ((floorNet_M μ).2) from by rw [hr])
    exact hE _ _ _ _ _ _ (kr_i dX7_floorNet_27) hS (by decide) (by decide) hM
  ·
    refine lv_aload_n hx hb dX7_floorNet_7 rfl (lv_at hl 0 rfl) ?_
    refine crV (rest := []) S hK (c_X7_overlapped l G om μ (by first | assumption | omega | decide) (by first | assumption | omega | decide)) cw_X7_268 rfl ⟨Nat.le_of_ble_eq_true rfl, Nat.le_of_ble_eq_true rfl⟩ ⟨Nat.le_of_ble_eq_true rfl, Nat.le_of_ble_eq_true rfl⟩ (bk.recv hK hM rfl rfl) hl.1 rfl (Nat.le_of_ble_eq_true rfl) dX7_floorNet_8 hM ?_
    refine lv_if_ge (tgt := 21) hx hb dX7_floorNet_11 (by decide) (fun c_11 => ?_) (fun c_11 => ?_)
    ·
      refine lv_aload_n hx hb dX7_floorNet_21 rfl (lv_at hl 0 rfl) ?_
      refine lv_bipush (v := (-3)) hx hb dX7_floorNet_22 (by decide) ?_
      refine ctV (rest := []) S hK (c_X7_refuse l G om μ (-3) 3 (by first | assumption | omega | decide) (by first | assumption | omega | decide)) cw_X7_72 rfl ⟨Nat.le_of_ble_eq_true rfl, Nat.le_of_ble_eq_true rfl⟩ ⟨Nat.le_of_ble_eq_true rfl, Nat.le_of_ble_eq_true rfl⟩ (bk.recv hK hM rfl rfl) hl.1 rfl (Nat.le_of_ble_eq_true rfl) dX7_floorNet_24 hM hS (fun _ h => by first | exact h | omega) (fun H locs hPost hz hk hS => ?_)
      have hM := hPost
      have hr : floorNet_M μ = ((-3), uA μ 0 3 (μ.2.1 0 3 + 1)) := by unfold floorNet_M; simp [c_4, c_11]
      refine w_top (v' := .int ((floorNet_M μ).1)) (congrArg (fun z => Value.int z) (congrArg Prod.fst hr).symm) ?_
      replace hM := bk_eq hM (show mL G om (uA μ 0 3 (μ.2.1 0 3 + 1)) = mL G om ((floorNet_M μ).2) from by rw [hr])
      exact hE _ _ _ _ _ _ (kr_i dX7_floorNet_27) hS (by decide) (by decide) hM
    ·
      refine lv_aload_n hx hb dX7_floorNet_14 rfl (lv_at hl 0 rfl) ?_
      refine crV (rest := []) S hK (c_X7_leaks l G om μ (by first | assumption | omega | decide) (by first | assumption | omega | decide) (by first | assumption | omega | decide)) cw_X7_284 rfl ⟨Nat.le_of_ble_eq_true rfl, Nat.le_of_ble_eq_true rfl⟩ ⟨Nat.le_of_ble_eq_true rfl, Nat.le_of_ble_eq_true rfl⟩ (bk.recv hK hM rfl rfl) hl.1 rfl (Nat.le_of_ble_eq_true rfl) dX7_floorNet_15 hM ?_
      refine lv_if_lt (tgt := 28) hx hb dX7_floorNet_18 (by decide) (fun c_18 => ?_) (fun c_18 => ?_)
      ·
        refine lv_aload_n hx hb dX7_floorNet_28 rfl (lv_at hl 0 rfl) ?_
        refine kg (C := RX7) (T := TX7) (N := 32) (ci := 5) (k := 18) (v := .int (nI (μ.1 18))) S hK rfl inX7 (by decide) q_748 dX7_floorNet_29 hM rfl rfl ?_
        refine lv_bipush (v := nI 6) hx hb dX7_floorNet_32 (by decide) ?_
        refine n_icmp_eq (tgt := 55) hx hb dX7_floorNet_34 (by decide) (by omega) (by decide) (fun c_34 => ?_) (fun c_34 => ?_)
        ·
          refine lv_aload_n hx hb dX7_floorNet_55 rfl (lv_at hl 0 rfl) ?_
          refine lv_bipush (v := (-6)) hx hb dX7_floorNet_56 (by decide) ?_
          refine ctV (rest := []) S hK (c_X7_refuse l G om μ (-6) 6 (by first | assumption | omega | decide) (by first | assumption | omega | decide)) cw_X7_72 rfl ⟨Nat.le_of_ble_eq_true rfl, Nat.le_of_ble_eq_true rfl⟩ ⟨Nat.le_of_ble_eq_true rfl, Nat.le_of_ble_eq_true rfl⟩ (bk.recv hK hM rfl rfl) hl.1 rfl (Nat.le_of_ble_eq_true rfl) dX7_floorNet_58 hM hS (fun _ h => by first | exact h | omega) (fun H locs hPost hz hk hS => ?_)
          have hM := hPost
          have hr : floorNet_M μ = ((-6), uA μ 0 6 (μ.2.1 0 6 + 1)) := by unfold floorNet_M; simp [c_4, c_11, c_18, c_34]
          refine w_top (v' := .int ((floorNet_M μ).1)) (congrArg (fun z => Value.int z) (congrArg Prod.fst hr).symm) ?_
          replace hM := bk_eq hM (show mL G om (uA μ 0 6 (μ.2.1 0 6 + 1)) = mL G om ((floorNet_M μ).2) from by rw [hr])
          exact hE _ _ _ _ _ _ (kr_i dX7_floorNet_61) hS (by decide) (by decide) hM
        ·
          refine lv_aload_n hx hb dX7_floorNet_37 rfl (lv_at hl 0 rfl) ?_
          refine kg (C := RX7) (T := TX7) (N := 32) (ci := 5) (k := 19) (v := .int (nI (μ.1 19))) S hK rfl inX7 (by decide) q_749 dX7_floorNet_38 hM rfl rfl ?_
          refine lv_bipush (v := nI 8) hx hb dX7_floorNet_41 (by decide) ?_
          refine n_icmp_gt (tgt := 55) hx hb dX7_floorNet_43 (by decide) (by omega) (by decide) (fun c_43 => ?_) (fun c_43 => ?_)
          ·
            refine lv_aload_n hx hb dX7_floorNet_55 rfl (lv_at hl 0 rfl) ?_
            refine lv_bipush (v := (-6)) hx hb dX7_floorNet_56 (by decide) ?_
            refine ctV (rest := []) S hK (c_X7_refuse l G om μ (-6) 6 (by first | assumption | omega | decide) (by first | assumption | omega | decide)) cw_X7_72 rfl ⟨Nat.le_of_ble_eq_true rfl, Nat.le_of_ble_eq_true rfl⟩ ⟨Nat.le_of_ble_eq_true rfl, Nat.le_of_ble_eq_true rfl⟩ (bk.recv hK hM rfl rfl) hl.1 rfl (Nat.le_of_ble_eq_true rfl) dX7_floorNet_58 hM hS (fun _ h => by first | exact h | omega) (fun H locs hPost hz hk hS => ?_)
            have hM := hPost
            have hr : floorNet_M μ = ((-6), uA μ 0 6 (μ.2.1 0 6 + 1)) := by unfold floorNet_M; simp [c_4, c_11, c_18, c_34, c_43]
            refine w_top (v' := .int ((floorNet_M μ).1)) (congrArg (fun z => Value.int z) (congrArg Prod.fst hr).symm) ?_
            replace hM := bk_eq hM (show mL G om (uA μ 0 6 (μ.2.1 0 6 + 1)) = mL G om ((floorNet_M μ).2) from by rw [hr])
            exact hE _ _ _ _ _ _ (kr_i dX7_floorNet_61) hS (by decide) (by decide) hM
          ·
            refine lv_aload_n hx hb dX7_floorNet_46 rfl (lv_at hl 0 rfl) ?_
            refine crV (rest := []) S hK (c_X7_meetings l G om μ (by first | assumption | omega | decide) (by first | assumption | omega | decide) (by first | assumption | omega | decide)) cw_X7_287 rfl ⟨Nat.le_of_ble_eq_true rfl, Nat.le_of_ble_eq_true rfl⟩ ⟨Nat.le_of_ble_eq_true rfl, Nat.le_of_ble_eq_true rfl⟩ (bk.recv hK hM rfl rfl) hl.1 rfl (Nat.le_of_ble_eq_true rfl) dX7_floorNet_47 hM ?_
            refine lv_bipush (v := nI 12) hx hb dX7_floorNet_50 (by decide) ?_
            refine n_icmp_le (tgt := 62) hx hb dX7_floorNet_52 (by decide) (by omega) (by decide) (fun c_52 => ?_) (fun c_52 => ?_)
            ·
              refine lv_aload_n hx hb dX7_floorNet_62 rfl (lv_at hl 0 rfl) ?_
              refine kg (C := RX7) (T := TX7) (N := 32) (ci := 5) (k := 18) (v := .int (nI (μ.1 18))) S hK rfl inX7 (by decide) q_748 dX7_floorNet_63 hM rfl rfl ?_
              refine lv_istore_n (lv' := [(1, .int (nI (μ.1 18))), (0, .ref om)]) hx hb dX7_floorNet_66 rfl hl (by decide) rfl (fun ls hl => ?_)
              refine lv_aload_n hx hb dX7_floorNet_67 rfl (lv_at hl 1 rfl) ?_
              refine lv_dup hx hb dX7_floorNet_68 rfl ?_
              refine kg (C := RX7) (T := TX7) (N := 32) (ci := 5) (k := 18) (v := .int (nI (μ.1 18))) S hK rfl inX7 (by decide) q_748 dX7_floorNet_69 hM rfl rfl ?_
              refine lv_iconst (v := nI 1) hx hb dX7_floorNet_72 (by decide) ?_
              refine n_iadd hx hb dX7_floorNet_73 ?_
              refine kp (C := RX7) (T := TX7) (N := 32) (ci := 5) (k := 18) (ty := .int) tyX7 tyX7_ok nmX7 S hK rfl inX7 (by decide) q_748 rfl dX7_floorNet_74 rfl rfl rfl hM rfl (Nat.le_of_ble_eq_true rfl) (L1 := mL G om (uS μ 18 ((μ.1 18) + 1))) rfl hS (by first | exact ⟨by omega, by omega⟩ | omega) (fun H locs hM hS hz2 hk => ?_)
              refine lv_aload_n hx hb dX7_floorNet_77 rfl (lv_at hl 1 rfl) ?_
              refine kg (C := RX7) (T := TX7) (N := 32) (ci := 5) (k := 7) (v := .ref (om + 8)) S hK rfl inX7 (by decide) q_737 dX7_floorNet_78 hM rfl rfl ?_
              refine lv_iload_n hx hb dX7_floorNet_81 rfl (lv_at hl 0 rfl) ?_
              refine lv_aload_n hx hb dX7_floorNet_82 rfl (lv_at hl 1 rfl) ?_
              refine kg (C := RX7) (T := TX7) (N := 32) (ci := 5) (k := 19) (v := .int (nI (μ.1 19))) S hK rfl inX7 (by decide) q_749 dX7_floorNet_83 hM rfl rfl ?_
              refine kis S hK dX7_floorNet_86 8 hM rfl (by decide) rfl (by omega) rfl (L1 := mL G om (uA (uS μ 18 ((μ.1 18) + 1)) 7 (μ.1 18) (μ.1 19))) rfl hS (by first | exact ⟨by omega, by omega⟩ | omega) (fun H locs hM hS hz2 hk => ?_)
              refine lv_aload_n hx hb dX7_floorNet_87 rfl (lv_at hl 1 rfl) ?_
              refine kg (C := RX7) (T := TX7) (N := 32) (ci := 5) (k := 8) (v := .ref (om + 9)) S hK rfl inX7 (by decide) q_738 dX7_floorNet_88 hM rfl rfl ?_
              refine lv_iload_n hx hb dX7_floorNet_91 rfl (lv_at hl 0 rfl) ?_
              refine lv_iconst (v := nI 0) hx hb dX7_floorNet_92 (by decide) ?_
              refine kis S hK dX7_floorNet_93 9 hM rfl (by decide) rfl (by omega) rfl (L1 := mL G om (uA (uA (uS μ 18 ((μ.1 18) + 1)) 7 (μ.1 18) (μ.1 19)) 8 (μ.1 18) 0)) rfl hS (by first | exact ⟨by omega, by omega⟩ | omega) (fun H locs hM hS hz2 hk => ?_)
              refine lv_iconst (v := nI 0) hx hb dX7_floorNet_94 (by decide) ?_
              refine lv_istore_n (lv' := [(2, .int (nI 0)), (1, .int (nI (μ.1 18))), (0, .ref om)]) hx hb dX7_floorNet_95 rfl hl (by decide) rfl (fun ls hl => ?_)
              have L96 : ∀ (fu : Nat), ∀ (vk : Nat) (ν : Sx), (vk ≤ μ.1 19) → (sFl ν μ) → (ν = flP μ (μ.1 18) (fl0 μ) vk) → μ.1 19 - vk < fu → ∀ (H : Heap) (locs : List Loc), bk G om (mL G om ν) H → va_S (fun q => om ≤ q ∧ q < om + 20) zs.heap H locs → ∀ ls : Array Slot, lv_has ls 5 [(0, .ref om), (1, .int (nI (μ.1 18))), (2, .int (nI vk))] → W zp l ze (rL 6 0 0) zs zm za zb zt zc H locs 0 0 Q (F0 zm 96 ls []) := by
                intro fu
                induction fu with
                | zero =>
                  intro vk ν hvk hfl he hmu H locs hM hS ls hl
                  exact absurd hmu (Nat.not_lt_zero _)
                | succ fu ih96 =>
                  intro vk ν hvk hfl he hmu H locs hM hS ls hl
                  obtain ⟨e19, e16, e1, e2, e3, e4, e12, e13, e14⟩ := id hfl
                  refine lv_iload_n hx hb dX7_floorNet_96 rfl (lv_at hl 2 rfl) ?_
                  refine lv_aload_n hx hb dX7_floorNet_97 rfl (lv_at hl 0 rfl) ?_
                  refine kg (C := RX7) (T := TX7) (N := 32) (ci := 5) (k := 19) (v := .int (nI (ν.1 19))) S hK rfl inX7 (by decide) q_749 dX7_floorNet_98 hM rfl rfl ?_
                  refine n_icmp_ge (tgt := 127) hx hb dX7_floorNet_101 (by decide) (by omega) (by omega) (fun c_101 => ?_) (fun c_101 => ?_)
                  ·
                    refine lv_iconst (v := nI 0) hx hb dX7_floorNet_127 (by decide) ?_
                    refine lv_istore_n (lv' := [(2, .int (nI 0)), (0, .ref om), (1, .int (nI (μ.1 18)))]) hx hb dX7_floorNet_128 rfl hl (by decide) rfl (fun ls hl => ?_)
                    have L129 : ∀ (fu : Nat), ∀ (vk : Nat) (ν : Sx), (vk ≤ μ.1 19) → (sFl ν μ) → (ν = flN μ (μ.1 18) (flP μ (μ.1 18) (fl0 μ) (μ.1 19)) vk) → (ν.2.1 8 (μ.1 18) = fcN (fcL μ) (mtC μ) vk) → μ.1 19 - vk < fu → ∀ (H : Heap) (locs : List Loc), bk G om (mL G om ν) H → va_S (fun q => om ≤ q ∧ q < om + 20) zs.heap H locs → ∀ ls : Array Slot, lv_has ls 5 [(0, .ref om), (1, .int (nI (μ.1 18))), (2, .int (nI vk))] → W zp l ze (rL 6 0 0) zs zm za zb zt zc H locs 0 0 Q (F0 zm 129 ls []) := by
                      intro fu
                      induction fu with
                      | zero =>
                        intro vk ν hvk hfl he hlk hmu H locs hM hS ls hl
                        exact absurd hmu (Nat.not_lt_zero _)
                      | succ fu ih129 =>
                        intro vk ν hvk hfl he hlk hmu H locs hM hS ls hl
                        obtain ⟨e19, e16, e1, e2, e3, e4, e12, e13, e14⟩ := id hfl
                        refine lv_iload_n hx hb dX7_floorNet_129 rfl (lv_at hl 2 rfl) ?_
                        refine lv_aload_n hx hb dX7_floorNet_130 rfl (lv_at hl 0 rfl) ?_
                        refine kg (C := RX7) (T := TX7) (N := 32) (ci := 5) (k := 19) (v := .int (nI (ν.1 19))) S hK rfl inX7 (by decide) q_749 dX7_floorNet_131 hM rfl rfl ?_
                        refine n_icmp_ge (tgt := 242) hx hb dX7_floorNet_134 (by decide) (by omega) (by omega) (fun c_134 => ?_) (fun c_134 => ?_)
                        ·
                          refine lv_iload_n hx hb dX7_floorNet_242 rfl (lv_at hl 1 rfl) ?_
                          have hr : floorNet_M μ = (nI (μ.1 18), ν) := by
                            unfold floorNet_M
                            simp [c_4, c_11, c_18, c_34, c_43]
                            rw [if_neg (show ¬ 12 < fcN (fcL μ) (mtC μ) (μ.1 19) by omega), he, show vk = μ.1 19 from by omega]
                          refine w_top (v' := .int ((floorNet_M μ).1)) (congrArg (fun z => Value.int z) (congrArg Prod.fst hr).symm) ?_
                          replace hM := bk_eq hM (show mL G om ν = mL G om ((floorNet_M μ).2) from by rw [hr])
                          exact hE _ _ _ _ _ _ (kr_i dX7_floorNet_243) hS (by decide) (by decide) hM
                        ·
                          have hvl2 : vk < μ.1 19 := by omega
                          have hfo5 := fcL_5 hb0 hl0 hvl2
                          have hlp := (hl0.2 vk hvl2).1
                          refine lv_iconst (v := nI 0) hx hb dX7_floorNet_137 (by decide) ?_
                          refine lv_istore_n (lv' := [(3, .int (nI 0)), (0, .ref om), (1, .int (nI (μ.1 18))), (2, .int (nI vk))]) hx hb dX7_floorNet_138 rfl hl (by decide) rfl (fun ls hl => ?_)
                          have L139 : ∀ (fu : Nat), ∀ (vf : Nat) (ν : Sx), (vf ≤ fcL μ vk) → (sFl ν μ) → (ν = fl1 μ (μ.1 18) vk (flN μ (μ.1 18) (flP μ (μ.1 18) (fl0 μ) (μ.1 19)) vk) vf) → (ν.2.1 8 (μ.1 18) = fcN (fcL μ) (mtC μ) vk + fc1 (mtC μ) vk vf) → fcL μ vk - vf < fu → ∀ (H : Heap) (locs : List Loc), bk G om (mL G om ν) H → va_S (fun q => om ≤ q ∧ q < om + 20) zs.heap H locs → ∀ ls : Array Slot, lv_has ls 5 [(0, .ref om), (1, .int (nI (μ.1 18))), (2, .int (nI vk)), (3, .int (nI vf))] → W zp l ze (rL 6 0 0) zs zm za zb zt zc H locs 0 0 Q (F0 zm 139 ls []) := by
                            intro fu
                            induction fu with
                            | zero =>
                              intro vf ν hvf hfl2 he2 hlk2 hmu H locs hM hS ls hl
                              exact absurd hmu (Nat.not_lt_zero _)
                            | succ fu ih139 =>
                              intro vf ν hvf hfl2 he2 hlk2 hmu H locs hM hS ls hl
                              obtain ⟨e19, e16, e1, e2, e3, e4, e12, e13, e14⟩ := id hfl2
                              refine lv_iload_n hx hb dX7_floorNet_139 rfl (lv_at hl 3 rfl) ?_
                              refine lv_aload_n hx hb dX7_floorNet_140 rfl (lv_at hl 0 rfl) ?_
                              refine kg (C := RX7) (T := TX7) (N := 32) (ci := 5) (k := 3) (v := .ref (om + 4)) S hK rfl inX7 (by decide) q_733 dX7_floorNet_141 hM rfl rfl ?_
                              refine lv_aload_n hx hb dX7_floorNet_144 rfl (lv_at hl 0 rfl) ?_
                              refine kg (C := RX7) (T := TX7) (N := 32) (ci := 5) (k := 12) (v := .ref (om + 13)) S hK rfl inX7 (by decide) q_742 dX7_floorNet_145 hM rfl rfl ?_
                              refine lv_iload_n hx hb dX7_floorNet_148 rfl (lv_at hl 2 rfl) ?_
                              refine kil (f := ν.2.1 12) S hK dX7_floorNet_149 13 hM rfl (by decide) rfl (by omega) ?_
                              refine w_top (v' := .int (nI (μ.2.1 12 vk))) (congrArg (fun z => Value.int (nI z)) (congrFun e12 vk)) ?_
                              refine kil (f := ν.2.1 3) S hK dX7_floorNet_150 4 hM rfl (by decide) rfl (by omega) ?_
                              refine w_top (v' := .int (nI (fcL μ vk))) (congrArg (fun z => Value.int (nI z)) (show ν.2.1 3 (μ.2.1 12 vk) = fcL μ vk from by rw [e3])) ?_
                              refine n_icmp_ge (tgt := 236) hx hb dX7_floorNet_151 (by decide) (by omega) (by omega) (fun c_151 => ?_) (fun c_151 => ?_)
                              ·
                                refine lv_iinc (v := (nI (vk + 1))) (lv' := [(2, .int (nI (vk + 1))), (0, .ref om), (1, .int (nI (μ.1 18))), (3, .int (nI vf))]) hx hb dX7_floorNet_236 hl (k := 2) rfl (inc1 _) (by decide) rfl (fun ls hl => ?_)
                                refine lv_goto (tgt := 129) hx hb dX7_floorNet_239 (by decide) ?_
                                exact ih129 (vk + 1) ν (by omega) hfl2 (by rw [he2, show vf = fcL μ vk from by omega] <;> rfl) (by rw [hlk2, show vf = fcL μ vk from by omega] <;> rfl) (by omega) _ _ hM hS ls (lv_sub hl [1, 2, 0] rfl)
                              ·
                                refine lv_aload_n hx hb dX7_floorNet_154 rfl (lv_at hl 0 rfl) ?_
                                refine lv_iload_n hx hb dX7_floorNet_155 rfl (lv_at hl 2 rfl) ?_
                                refine lv_iload_n hx hb dX7_floorNet_156 rfl (lv_at hl 3 rfl) ?_
                                refine lv_iconst (v := nI 0) hx hb dX7_floorNet_157 (by decide) ?_
                                rcases met_v hb0 hl0 (k := vk) (f := vf) (i := 0) (by decide) with hq | ⟨va, vg, ha, hg, hg4, hne, hz, hq⟩
                                ·
                                  refine crV (rest := []) S hK (c_X7_met l G om ν vk vf 0 (MI0_c hfl2 h0) (MIl_c hfl2 hl0) (MIg_c hfl2 hg0) (by omega) (by rw [fcL_c hfl2]; omega) (by decide)) cw_X7_277 rfl ⟨Nat.le_of_ble_eq_true rfl, Nat.le_of_ble_eq_true rfl⟩ ⟨Nat.le_of_ble_eq_true rfl, Nat.le_of_ble_eq_true rfl⟩ (bk.recv hK hM rfl rfl) hl.1 rfl (Nat.le_of_ble_eq_true rfl) dX7_floorNet_158 hM ?_
                                  refine w_top (v' := .int (-9)) (congrArg (fun z => Value.int z) ((metM_c hfl2 vk vf 0).trans hq)) ?_
                                  refine lv_istore (lv' := [(4, .int (-9)), (0, .ref om), (1, .int (nI (μ.1 18))), (2, .int (nI vk)), (3, .int (nI vf))]) hx hb dX7_floorNet_161 hl (by decide) rfl (fun ls hl => ?_)
                                  refine lv_iload hx hb dX7_floorNet_163 (lv_at hl 0 rfl) ?_
                                  refine lv_if_lt (tgt := 230) hx hb dX7_floorNet_165 (by decide) (fun c_165 => ?_) (fun c_165 => ?_)
                                  ·
                                    have hmt := mtC_9 (by omega) hq
                                    have e9 := fc1_no (Z := mtC μ) (k := vk) (f := vf) hmt
                                    refine lv_iinc (v := (nI (vf + 1))) (lv' := [(3, .int (nI (vf + 1))), (4, .int (-9)), (0, .ref om), (1, .int (nI (μ.1 18))), (2, .int (nI vk))]) hx hb dX7_floorNet_230 hl (k := 4) rfl (inc1 _) (by decide) rfl (fun ls hl => ?_)
                                    refine lv_goto (tgt := 139) hx hb dX7_floorNet_233 (by decide) ?_
                                    exact ih139 (vf + 1) ν (by omega) hfl2 (by rw [fl1_n hmt]; exact he2) (by rw [hlk2]; omega) (by omega) _ _ hM hS ls (lv_sub hl [2, 3, 4, 0] rfl)
                                  ·
                                    exact absurd c_165 (by decide)
                                ·
                                  have hmo := mtC_o hb0 hl0 hvl2 (by omega) ha hg4 hne hq
                                  refine crV (rest := []) S hK (c_X7_met l G om ν vk vf 0 (MI0_c hfl2 h0) (MIl_c hfl2 hl0) (MIg_c hfl2 hg0) (by omega) (by rw [fcL_c hfl2]; omega) (by decide)) cw_X7_277 rfl ⟨Nat.le_of_ble_eq_true rfl, Nat.le_of_ble_eq_true rfl⟩ ⟨Nat.le_of_ble_eq_true rfl, Nat.le_of_ble_eq_true rfl⟩ (bk.recv hK hM rfl rfl) hl.1 rfl (Nat.le_of_ble_eq_true rfl) dX7_floorNet_158 hM ?_
                                  refine w_top (v' := .int (nI (10 * va + vg))) (congrArg (fun z => Value.int z) ((metM_c hfl2 vk vf 0).trans hq)) ?_
                                  refine lv_istore (lv' := [(4, .int (nI (10 * va + vg))), (0, .ref om), (1, .int (nI (μ.1 18))), (2, .int (nI vk)), (3, .int (nI vf))]) hx hb dX7_floorNet_161 hl (by decide) rfl (fun ls hl => ?_)
                                  refine lv_iload hx hb dX7_floorNet_163 (lv_at hl 0 rfl) ?_
                                  refine n_if_lt (tgt := 230) hx hb dX7_floorNet_165 (by decide) (by omega) (fun c_165 => ?_)
                                  refine lv_iload hx hb dX7_floorNet_168 (lv_at hl 0 rfl) ?_
                                  refine lv_bipush (v := nI 10) hx hb dX7_floorNet_170 (by decide) ?_
                                  refine n_idiv hx hb dX7_floorNet_172 (by omega) (by decide) (by decide) ?_
                                  refine lv_iload_n hx hb dX7_floorNet_173 rfl (lv_at hl 3 rfl) ?_
                                  refine n_icmp_ge (tgt := 180) hx hb dX7_floorNet_174 (by decide) (by omega) (by omega) (fun c_174 => ?_) (fun c_174 => ?_)
                                  ·
                                    have hmt : mtC μ vk vf = true := hmo.trans (decide_eq_true (by omega))
                                    have e9 := fc1_yes (Z := mtC μ) (k := vk) (f := vf) hmt
                                    have hltt := fc_lt1 (F := fcL μ) (Z := mtC μ) (P := μ.1 19) hvl2 (by omega) hmt
                                    refine lv_aload_n hx hb dX7_floorNet_180 rfl (lv_at hl 1 rfl) ?_
                                    refine kg (C := RX7) (T := TX7) (N := 32) (ci := 5) (k := 10) (v := .ref (om + 11)) S hK rfl inX7 (by decide) q_740 dX7_floorNet_181 hM rfl rfl ?_
                                    refine lv_bipush (v := nI 12) hx hb dX7_floorNet_184 (by decide) ?_
                                    refine lv_iload_n hx hb dX7_floorNet_186 rfl (lv_at hl 2 rfl) ?_
                                    refine n_imul hx hb dX7_floorNet_187 ?_
                                    refine lv_aload_n hx hb dX7_floorNet_188 rfl (lv_at hl 1 rfl) ?_
                                    refine kg (C := RX7) (T := TX7) (N := 32) (ci := 5) (k := 8) (v := .ref (om + 9)) S hK rfl inX7 (by decide) q_738 dX7_floorNet_189 hM rfl rfl ?_
                                    refine lv_iload_n hx hb dX7_floorNet_192 rfl (lv_at hl 2 rfl) ?_
                                    refine kil (f := ν.2.1 8) S hK dX7_floorNet_193 9 hM rfl (by decide) rfl (by omega) ?_
                                    refine n_iadd hx hb dX7_floorNet_194 ?_
                                    refine lv_bipush (v := nI 10) hx hb dX7_floorNet_195 (by decide) ?_
                                    refine lv_iload_n hx hb dX7_floorNet_197 rfl (lv_at hl 3 rfl) ?_
                                    refine n_imul hx hb dX7_floorNet_198 ?_
                                    refine lv_iload_n hx hb dX7_floorNet_199 rfl (lv_at hl 4 rfl) ?_
                                    refine n_iadd hx hb dX7_floorNet_200 ?_
                                    refine kis S hK dX7_floorNet_201 11 hM rfl (by decide) rfl (by omega) rfl (L1 := mL G om (uA ν 10 ((12 * (μ.1 18)) + (ν.2.1 8 (μ.1 18))) ((10 * vk) + vf))) rfl hS (by first | exact ⟨by omega, by omega⟩ | omega) (fun H locs hM hS hz2 hk => ?_)
                                    refine lv_aload_n hx hb dX7_floorNet_202 rfl (lv_at hl 1 rfl) ?_
                                    refine kg (C := RX7) (T := TX7) (N := 32) (ci := 5) (k := 11) (v := .ref (om + 12)) S hK rfl inX7 (by decide) q_741 dX7_floorNet_203 hM rfl rfl ?_
                                    refine lv_bipush (v := nI 12) hx hb dX7_floorNet_206 (by decide) ?_
                                    refine lv_iload_n hx hb dX7_floorNet_208 rfl (lv_at hl 2 rfl) ?_
                                    refine n_imul hx hb dX7_floorNet_209 ?_
                                    refine lv_aload_n hx hb dX7_floorNet_210 rfl (lv_at hl 1 rfl) ?_
                                    refine kg (C := RX7) (T := TX7) (N := 32) (ci := 5) (k := 8) (v := .ref (om + 9)) S hK rfl inX7 (by decide) q_738 dX7_floorNet_211 hM rfl rfl ?_
                                    refine lv_iload_n hx hb dX7_floorNet_214 rfl (lv_at hl 2 rfl) ?_
                                    refine kil (f := ν.2.1 8) S hK dX7_floorNet_215 9 hM rfl (by decide) rfl (by omega) ?_
                                    refine n_iadd hx hb dX7_floorNet_216 ?_
                                    refine lv_iload hx hb dX7_floorNet_217 (lv_at hl 0 rfl) ?_
                                    refine kis S hK dX7_floorNet_219 12 hM rfl (by decide) rfl (by omega) rfl (L1 := mL G om (uA (uA ν 10 ((12 * (μ.1 18)) + (ν.2.1 8 (μ.1 18))) ((10 * vk) + vf)) 11 ((12 * (μ.1 18)) + (ν.2.1 8 (μ.1 18))) (10 * va + vg))) rfl hS (by first | exact ⟨by omega, by omega⟩ | omega) (fun H locs hM hS hz2 hk => ?_)
                                    refine lv_aload_n hx hb dX7_floorNet_220 rfl (lv_at hl 1 rfl) ?_
                                    refine kg (C := RX7) (T := TX7) (N := 32) (ci := 5) (k := 8) (v := .ref (om + 9)) S hK rfl inX7 (by decide) q_738 dX7_floorNet_221 hM rfl rfl ?_
                                    refine lv_iload_n hx hb dX7_floorNet_224 rfl (lv_at hl 2 rfl) ?_
                                    refine lv_dup2_11 hx hb dX7_floorNet_225 rfl rfl ?_
                                    refine kil (f := ν.2.1 8) S hK dX7_floorNet_226 9 hM rfl (by decide) rfl (by omega) ?_
                                    refine lv_iconst (v := nI 1) hx hb dX7_floorNet_227 (by decide) ?_
                                    refine n_iadd hx hb dX7_floorNet_228 ?_
                                    refine kis S hK dX7_floorNet_229 9 hM rfl (by decide) rfl (by omega) rfl (L1 := mL G om (uA (uA (uA ν 10 ((12 * (μ.1 18)) + (ν.2.1 8 (μ.1 18))) ((10 * vk) + vf)) 11 ((12 * (μ.1 18)) + (ν.2.1 8 (μ.1 18))) (10 * va + vg)) 8 (μ.1 18) ((ν.2.1 8 (μ.1 18)) + 1))) rfl hS (by first | exact ⟨by omega, by omega⟩ | omega) (fun H locs hM hS hz2 hk => ?_)
                                    refine lv_iinc (v := (nI (vf + 1))) (lv' := [(3, .int (nI (vf + 1))), (4, .int (nI (10 * va + vg))), (0, .ref om), (1, .int (nI (μ.1 18))), (2, .int (nI vk))]) hx hb dX7_floorNet_230 hl (k := 4) rfl (inc1 _) (by decide) rfl (fun ls hl => ?_)
                                    refine lv_goto (tgt := 139) hx hb dX7_floorNet_233 (by decide) ?_
                                    replace hM := bk_eq hM (show mL G om (uA (uA (uA ν 10 ((12 * (μ.1 18)) + (ν.2.1 8 (μ.1 18))) ((10 * vk) + vf)) 11 ((12 * (μ.1 18)) + (ν.2.1 8 (μ.1 18))) (10 * va + vg)) 8 (μ.1 18) ((ν.2.1 8 (μ.1 18)) + 1)) = mL G om (addM ν (μ.1 18) (10 * vk + vf) (10 * va + vg)) from rfl)
                                    exact ih139 (vf + 1) (addM ν (μ.1 18) (10 * vk + vf) (10 * va + vg)) (by omega) hfl2 (by rw [fl1_y hmt hq (by omega), ← he2]) ((uN_s _ _ _).trans (by rw [hlk2]; omega)) (by omega) _ _ hM hS ls (lv_sub hl [2, 3, 4, 0] rfl)
                                  ·
                                    have hmt : mtC μ vk vf = false := hmo.trans (decide_eq_false (by omega))
                                    have e9 := fc1_no (Z := mtC μ) (k := vk) (f := vf) hmt
                                    refine lv_goto (tgt := 230) hx hb dX7_floorNet_177 (by decide) ?_
                                    refine lv_iinc (v := (nI (vf + 1))) (lv' := [(3, .int (nI (vf + 1))), (4, .int (nI (10 * va + vg))), (0, .ref om), (1, .int (nI (μ.1 18))), (2, .int (nI vk))]) hx hb dX7_floorNet_230 hl (k := 4) rfl (inc1 _) (by decide) rfl (fun ls hl => ?_)
                                    refine lv_goto (tgt := 139) hx hb dX7_floorNet_233 (by decide) ?_
                                    exact ih139 (vf + 1) ν (by omega) hfl2 (by rw [fl1_n hmt]; exact he2) (by rw [hlk2]; omega) (by omega) _ _ hM hS ls (lv_sub hl [2, 3, 4, 0] rfl)
                          exact L139 ((fcL μ vk - 0) + 1) 0 ν (Nat.zero_le _) hfl he hlk (Nat.lt_succ_self _) _ _ hM hS ls (lv_sub hl [1, 2, 3, 0] rfl)
                    exact L129 ((μ.1 19 - 0) + 1) 0 ν (Nat.zero_le _) hfl (by rw [he, show vk = μ.1 19 from by omega] <;> rfl) (by rw [he]; exact flP_8 μ _) (Nat.lt_succ_self _) _ _ hM hS ls (lv_sub hl [1, 2, 0] rfl)
                  ·
                    refine lv_aload_n hx hb dX7_floorNet_104 rfl (lv_at hl 0 rfl) ?_
                    refine kg (C := RX7) (T := TX7) (N := 32) (ci := 5) (k := 9) (v := .ref (om + 10)) S hK rfl inX7 (by decide) q_739 dX7_floorNet_105 hM rfl rfl ?_
                    refine lv_bipush (v := nI 8) hx hb dX7_floorNet_108 (by decide) ?_
                    refine lv_iload_n hx hb dX7_floorNet_110 rfl (lv_at hl 1 rfl) ?_
                    refine n_imul hx hb dX7_floorNet_111 ?_
                    refine lv_iload_n hx hb dX7_floorNet_112 rfl (lv_at hl 2 rfl) ?_
                    refine n_iadd hx hb dX7_floorNet_113 ?_
                    refine lv_aload_n hx hb dX7_floorNet_114 rfl (lv_at hl 0 rfl) ?_
                    refine kg (C := RX7) (T := TX7) (N := 32) (ci := 5) (k := 12) (v := .ref (om + 13)) S hK rfl inX7 (by decide) q_742 dX7_floorNet_115 hM rfl rfl ?_
                    refine lv_iload_n hx hb dX7_floorNet_118 rfl (lv_at hl 2 rfl) ?_
                    refine kil (f := ν.2.1 12) S hK dX7_floorNet_119 13 hM rfl (by decide) rfl (by omega) ?_
                    refine kis S hK dX7_floorNet_120 10 hM rfl (by decide) rfl (by omega) rfl (L1 := mL G om (uA ν 9 ((8 * (μ.1 18)) + vk) (ν.2.1 12 vk))) rfl hS (by first | exact ⟨by omega, by omega⟩ | omega) (fun H locs hM hS hz2 hk => ?_)
                    refine lv_iinc (v := (nI (vk + 1))) (lv' := [(2, .int (nI (vk + 1))), (0, .ref om), (1, .int (nI (μ.1 18)))]) hx hb dX7_floorNet_121 hl (k := 2) rfl (inc1 _) (by decide) rfl (fun ls hl => ?_)
                    refine lv_goto (tgt := 96) hx hb dX7_floorNet_124 (by decide) ?_
                    replace hM := bk_eq hM (show mL G om (uA ν 9 ((8 * (μ.1 18)) + vk) (ν.2.1 12 vk)) = mL G om (uA ν 9 (8 * μ.1 18 + vk) (ν.2.1 12 vk)) from rfl)
                    exact ih96 (vk + 1) (uA ν 9 (8 * μ.1 18 + vk) (ν.2.1 12 vk)) (by omega) hfl (by
                      show uA ν 9 (8 * μ.1 18 + vk) (ν.2.1 12 vk) = uA (flP μ (μ.1 18) (fl0 μ) vk) 9 (8 * μ.1 18 + vk) (μ.2.1 12 vk)
                      rw [e12, he]) (by omega) _ _ hM hS ls (lv_sub hl [1, 2, 0] rfl)
              replace hM := bk_eq hM (show mL G om (uA (uA (uS μ 18 ((μ.1 18) + 1)) 7 (μ.1 18) (μ.1 19)) 8 (μ.1 18) 0) = mL G om (fl0 μ) from rfl)
              exact L96 ((μ.1 19 - 0) + 1) 0 (fl0 μ) (Nat.zero_le _) ⟨rfl, rfl, rfl, rfl, rfl, rfl, rfl, rfl, rfl⟩ rfl (Nat.lt_succ_self _) _ _ hM hS ls (lv_sub hl [2, 1, 0] rfl)
            ·
              refine lv_aload_n hx hb dX7_floorNet_55 rfl (lv_at hl 0 rfl) ?_
              refine lv_bipush (v := (-6)) hx hb dX7_floorNet_56 (by decide) ?_
              refine ctV (rest := []) S hK (c_X7_refuse l G om μ (-6) 6 (by first | assumption | omega | decide) (by first | assumption | omega | decide)) cw_X7_72 rfl ⟨Nat.le_of_ble_eq_true rfl, Nat.le_of_ble_eq_true rfl⟩ ⟨Nat.le_of_ble_eq_true rfl, Nat.le_of_ble_eq_true rfl⟩ (bk.recv hK hM rfl rfl) hl.1 rfl (Nat.le_of_ble_eq_true rfl) dX7_floorNet_58 hM hS (fun _ h => by first | exact h | omega) (fun H locs hPost hz hk hS => ?_)
              have hM := hPost
              have hr : floorNet_M μ = ((-6), uA μ 0 6 (μ.2.1 0 6 + 1)) := by unfold floorNet_M; simp [c_4, c_11, c_18, c_34, c_43, c_52]
              refine w_top (v' := .int ((floorNet_M μ).1)) (congrArg (fun z => Value.int z) (congrArg Prod.fst hr).symm) ?_
              replace hM := bk_eq hM (show mL G om (uA μ 0 6 (μ.2.1 0 6 + 1)) = mL G om ((floorNet_M μ).2) from by rw [hr])
              exact hE _ _ _ _ _ _ (kr_i dX7_floorNet_61) hS (by decide) (by decide) hM
      ·
        refine lv_aload_n hx hb dX7_floorNet_21 rfl (lv_at hl 0 rfl) ?_
        refine lv_bipush (v := (-3)) hx hb dX7_floorNet_22 (by decide) ?_
        refine ctV (rest := []) S hK (c_X7_refuse l G om μ (-3) 3 (by first | assumption | omega | decide) (by first | assumption | omega | decide)) cw_X7_72 rfl ⟨Nat.le_of_ble_eq_true rfl, Nat.le_of_ble_eq_true rfl⟩ ⟨Nat.le_of_ble_eq_true rfl, Nat.le_of_ble_eq_true rfl⟩ (bk.recv hK hM rfl rfl) hl.1 rfl (Nat.le_of_ble_eq_true rfl) dX7_floorNet_24 hM hS (fun _ h => by first | exact h | omega) (fun H locs hPost hz hk hS => ?_)
        have hM := hPost
        have hr : floorNet_M μ = ((-3), uA μ 0 3 (μ.2.1 0 3 + 1)) := by unfold floorNet_M; simp [c_4, c_11, c_18]
        refine w_top (v' := .int ((floorNet_M μ).1)) (congrArg (fun z => Value.int z) (congrArg Prod.fst hr).symm) ?_
        replace hM := bk_eq hM (show mL G om (uA μ 0 3 (μ.2.1 0 3 + 1)) = mL G om ((floorNet_M μ).2) from by rw [hr])
        exact hE _ _ _ _ _ _ (kr_i dX7_floorNet_27) hS (by decide) (by decide) hM
