
/-! walks: the reference FINDS -/
abbrev fiB (μ : Sx) (w h f : Nat) : Nat → Bool := fun bl => decide (ltM (lyC μ w h bl) (μ.1 20) = bo (trB μ f) (1 <<< μ.1 20))
abbrev fiD (μ : Sx) (w h f : Nat) : Option Nat := fnd (fiB μ w h f) (1 <<< (w * h - μ.1 20)) 0
def fiR (μ : Sx) (w h f : Nat) : Int32 × Sx := match fiD μ w h f with
  | none => (-9, uS μ 20 0)
  | some bl => (nI (μ.1 16), nwP (uS μ 20 0) w h (μ.1 20) (lyC μ w h bl))
theorem fiR_n {μ : Sx} {w h f : Nat} (q : fiD μ w h f = none) : fiR μ w h f = (-9, uS μ 20 0) := by unfold fiR; rw [q]
theorem fiR_s {μ : Sx} {w h f b : Nat} (q : fiD μ w h f = some b) : fiR μ w h f = (nI (μ.1 16), nwP (uS μ 20 0) w h (μ.1 20) (lyC μ w h b)) := by unfold fiR; rw [q]
def find_M (μ : Sx) (w h f : Int32) : Int32 × Sx := if inI f (μ.1 17) then (if w < nI 1 ∨ h < nI 1 then (-4, rfM μ 4) else if cx w ≤ 5 ∧ cx h ≤ 4 ∧ cx w * cx h ≤ 9 ∧ ¬ μ.1 16 = 24 then (if rowP μ (cx w) (cx h) then fiR μ (cx w) (cx h) (cx f) else (-3, rfM μ 3)) else (-6, rfM μ 6)) else (-1, rfM μ 1)
def fiV (μ : Sx) : Option Nat → Int32
  | none => -9
  | some _ => nI (μ.1 16)
theorem ge1 {w : Int32} (h : ¬ w < nI 1) : ∃ i : Nat, 1 ≤ i ∧ i < 2 ^ 31 ∧ w = nI i := by
  have h0 : ¬ w < 0 := fun q => h (by
    have a := Int32.lt_iff_toInt_lt.mp q
    apply Int32.lt_iff_toInt_lt.mpr
    rw [nI_toInt (by decide)]
    have e : (0 : Int32).toInt = 0 := rfl
    omega)
  obtain ⟨i, hi, rfl⟩ := nI_of h0
  refine ⟨i, ?_, hi, rfl⟩
  rcases Nat.eq_zero_or_pos i with z | z
  · subst z
    exact absurd (nI_lt (by decide) (by decide)) h
  · exact z
theorem NW_S {μ ρ : Sx} {w h f : Nat} {c : Nat → Nat} (q : NW μ w h f c ρ) : NW (uS μ 20 0) w h f c (uS ρ 20 0) := ⟨pth_2 q.1 20 0, q.2.1, q.2.2.1, q.2.2.2.1, q.2.2.2.2⟩
theorem lyC_lt {μ : Sx} (hr : MIr μ) (w h bl k : Nat) : lyC μ w h bl k < 16 := by
  unfold lyC
  split
  · unfold lyV
    split
    · rename_i g hg
      have := (fnd_lt _ _ hg).2.1
      have := hr.1
      omega
    · split <;> omega
  · omega
theorem lyC_0 (μ : Sx) (w h bl k : Nat) (hk : ¬ (k % 5 < w ∧ k / 5 < h)) : lyC μ w h bl k = 0 := if_neg hk
theorem vis_20 {ρ μ : Sx} (h : pth (μ.1 16) ρ μ) : vis (uS (uS ρ 20 0) 16 (ρ.1 16)) (uS μ 20 0) := by
  have q : pth (μ.1 16) (uS ρ 20 0) (uS μ 20 0) := pth_2 h 20 0
  have e : uS (uS ρ 20 0) 16 (ρ.1 16) = uS ρ 20 0 := by
    refine Prod.ext (funext fun j => ?_) rfl
    show (if j = 16 then ρ.1 16 else (if j = 20 then 0 else ρ.1 j)) = (if j = 20 then 0 else ρ.1 j)
    by_cases z : j = 16
    · subst z
      rfl
    · rw [if_neg z]
  rw [e]
  exact vis_p q

/-- unlike CELLS that stand on the board are as many as it has at most -/
theorem row_le {μ : Sx} {w h : Nat} (hr : MIr μ) (q : rowP μ w h) (hw : w ≤ 5) (hh : h ≤ 4) : μ.1 20 ≤ w * h := by
  obtain ⟨q0, q1⟩ := q
  have h3 := hr.1
  have a0 := (q1 0 q0).1
  have hw1 : 1 ≤ w := by omega
  have hh1 : 1 ≤ h := by omega
  have hwh : w * h ≥ 1 := Nat.mul_le_mul hw1 hh1
  by_cases z1 : μ.1 20 ≤ 1
  · omega
  · have b1 := q1 1 (by omega)
    have b01 := b1.2 0 (by omega)
    rcases (show w = 1 ∨ w = 2 ∨ w = 3 ∨ w = 4 ∨ w = 5 by omega) with z | z | z | z | z <;> subst z <;> rcases (show h = 1 ∨ h = 2 ∨ h = 3 ∨ h = 4 by omega) with y | y | y | y <;> subst y <;> first
      | omega
      | (by_cases z2 : μ.1 20 ≤ 2
         · omega
         · have c2 := q1 2 (by omega)
           have c02 := c2.2 0 (by omega)
           have c12 := c2.2 1 (by omega)
           omega)

set_option maxHeartbeats 1000000 in
set_option maxRecDepth 100000 in
theorem c_X7_find (l : Launch) (G : Gt) (om : Nat) (μ : Sx) (w : Int32) (h : Int32) (f : Int32) (hb0 : MIb μ) (hif : MIf μ) (hr0 : MIr μ) : Ct l G yX7_find cX7_find 8 ((some .int)) 25 0 0 [.ref om, .int w, .int h, .int f] (fun H => bk G om (mL G om μ) H) (some (.int ((find_M μ w h f).1))) (fun H => ∃ σ : Sx, bk G om (mL G om σ) H ∧ vis σ (find_M μ w h f).2) (fun q => om ≤ q ∧ q < om + 20) := by
  refine ct_entry [(0, .ref om), (1, .int w), (2, .int h), (3, .int f)] (by decide) (Nat.le_of_ble_eq_true rfl) rfl ?_
  intro zp ze zs zm za zb zt zc Q S hK hPre hin hE ls hl
  have hx := S.1
  have hb := S.2.1
  have hM := hPre
  have hS : va_S (fun q => om ≤ q ∧ q < om + 20) zs.heap zs.heap [] := va_S.rf
  have hp24 := hb0.1
  have h17 := hif.1
  have h20 := hr0.1
  refine lv_aload_n hx hb dX7_find_0 rfl (lv_at hl 0 rfl) ?_
  refine lv_iload_n hx hb dX7_find_1 rfl (lv_at hl 3 rfl) ?_
  refine crV (rest := []) S hK (c_X7_isFormula l G om μ f (by first | assumption | omega | decide)) cw_X7_191 rfl ⟨Nat.le_of_ble_eq_true rfl, Nat.le_of_ble_eq_true rfl⟩ ⟨Nat.le_of_ble_eq_true rfl, Nat.le_of_ble_eq_true rfl⟩ (bk.recv hK hM rfl rfl) hl.1 rfl (Nat.le_of_ble_eq_true rfl) dX7_find_2 hM ?_
  refine z_if_ne (tgt := 14) hx hb dX7_find_5 (by decide) (fun c_5 => ?_) (fun c_5 => ?_)
  ·
    obtain ⟨vf, hvf, rfl⟩ := inI_x c_5
    have hcf := cx_n (j := vf) (by omega)
    refine lv_iload_n hx hb dX7_find_14 rfl (lv_at hl 1 rfl) ?_
    refine lv_iconst (v := nI 1) hx hb dX7_find_15 (by decide) ?_
    refine lv_icmp_lt (tgt := 24) hx hb dX7_find_16 (by decide) (fun c_16 => ?_) (fun c_16 => ?_)
    ·
      refine lv_aload_n hx hb dX7_find_24 rfl (lv_at hl 0 rfl) ?_
      refine lv_bipush (v := (-4)) hx hb dX7_find_25 (by decide) ?_
      refine ctV (rest := []) S hK (c_X7_refuse l G om μ (-4) 4 rfl (by decide)) cw_X7_72 rfl ⟨Nat.le_of_ble_eq_true rfl, Nat.le_of_ble_eq_true rfl⟩ ⟨Nat.le_of_ble_eq_true rfl, Nat.le_of_ble_eq_true rfl⟩ (bk.recv hK hM rfl rfl) hl.1 rfl (Nat.le_of_ble_eq_true rfl) dX7_find_27 hM hS (fun _ h => by first | exact h | omega) (fun H locs hPost hz hk hS => ?_)
      have hM := hPost
      have hr : find_M μ w h (nI vf) = ((-4), uA μ 0 4 (μ.2.1 0 4 + 1)) := by unfold find_M; rw [c_5, if_pos (by rfl), if_pos (Or.inl c_16)]
      refine w_top (v' := .int ((find_M μ w h (nI vf)).1)) (congrArg (fun z => Value.int z) (congrArg Prod.fst hr).symm) ?_
      exact hE _ _ _ _ _ _ (kr_i dX7_find_30) hS (by decide) (by decide) ⟨(uA μ 0 4 (μ.2.1 0 4 + 1)), hM, (by rw [hr]; exact vis_rf _)⟩
    ·
      refine lv_iload_n hx hb dX7_find_19 rfl (lv_at hl 2 rfl) ?_
      refine lv_iconst (v := nI 1) hx hb dX7_find_20 (by decide) ?_
      refine lv_icmp_ge (tgt := 31) hx hb dX7_find_21 (by decide) (fun c_21 => ?_) (fun c_21 => ?_)
      ·
        obtain ⟨vw, hw1, hw31, rfl⟩ := ge1 c_16
        have hge1 : ¬ nI vw < nI 1 := c_16
        have hge2 : ¬ h < nI 1 := Int32.not_lt.mpr c_21
        obtain ⟨vh, hh1, hh31, rfl⟩ := ge1 hge2
        have hcw := cx_n hw31
        have hch := cx_n hh31
        refine lv_iload_n hx hb dX7_find_31 rfl (lv_at hl 1 rfl) ?_
        refine lv_iconst (v := nI 5) hx hb dX7_find_32 (by decide) ?_
        refine n_icmp_gt (tgt := 58) hx hb dX7_find_33 (by decide) (by first | omega | exact bo63 (Nat.le_trans (shl_le (n := 5) (by omega)) (by decide)) | exact shl_lt (by omega)) (by decide) (fun c_33 => ?_) (fun c_33 => ?_)
        ·
          refine lv_aload_n hx hb dX7_find_58 rfl (lv_at hl 0 rfl) ?_
          refine lv_bipush (v := (-6)) hx hb dX7_find_59 (by decide) ?_
          refine ctV (rest := []) S hK (c_X7_refuse l G om μ (-6) 6 rfl (by decide)) cw_X7_72 rfl ⟨Nat.le_of_ble_eq_true rfl, Nat.le_of_ble_eq_true rfl⟩ ⟨Nat.le_of_ble_eq_true rfl, Nat.le_of_ble_eq_true rfl⟩ (bk.recv hK hM rfl rfl) hl.1 rfl (Nat.le_of_ble_eq_true rfl) dX7_find_61 hM hS (fun _ h => by first | exact h | omega) (fun H locs hPost hz hk hS => ?_)
          have hM := hPost
          have hr : find_M μ (nI vw) (nI vh) (nI vf) = ((-6), uA μ 0 6 (μ.2.1 0 6 + 1)) := by unfold find_M; rw [c_5, if_pos (by rfl), if_neg (fun q => q.elim hge1 hge2), hcw, hch, if_neg (by omega)]
          refine w_top (v' := .int ((find_M μ (nI vw) (nI vh) (nI vf)).1)) (congrArg (fun z => Value.int z) (congrArg Prod.fst hr).symm) ?_
          exact hE _ _ _ _ _ _ (kr_i dX7_find_64) hS (by decide) (by decide) ⟨(uA μ 0 6 (μ.2.1 0 6 + 1)), hM, (by rw [hr]; exact vis_rf _)⟩
        ·
          refine lv_iload_n hx hb dX7_find_36 rfl (lv_at hl 2 rfl) ?_
          refine lv_iconst (v := nI 4) hx hb dX7_find_37 (by decide) ?_
          refine n_icmp_gt (tgt := 58) hx hb dX7_find_38 (by decide) (by first | omega | exact bo63 (Nat.le_trans (shl_le (n := 5) (by omega)) (by decide)) | exact shl_lt (by omega)) (by decide) (fun c_38 => ?_) (fun c_38 => ?_)
          ·
            refine lv_aload_n hx hb dX7_find_58 rfl (lv_at hl 0 rfl) ?_
            refine lv_bipush (v := (-6)) hx hb dX7_find_59 (by decide) ?_
            refine ctV (rest := []) S hK (c_X7_refuse l G om μ (-6) 6 rfl (by decide)) cw_X7_72 rfl ⟨Nat.le_of_ble_eq_true rfl, Nat.le_of_ble_eq_true rfl⟩ ⟨Nat.le_of_ble_eq_true rfl, Nat.le_of_ble_eq_true rfl⟩ (bk.recv hK hM rfl rfl) hl.1 rfl (Nat.le_of_ble_eq_true rfl) dX7_find_61 hM hS (fun _ h => by first | exact h | omega) (fun H locs hPost hz hk hS => ?_)
            have hM := hPost
            have hr : find_M μ (nI vw) (nI vh) (nI vf) = ((-6), uA μ 0 6 (μ.2.1 0 6 + 1)) := by unfold find_M; rw [c_5, if_pos (by rfl), if_neg (fun q => q.elim hge1 hge2), hcw, hch, if_neg (by omega)]
            refine w_top (v' := .int ((find_M μ (nI vw) (nI vh) (nI vf)).1)) (congrArg (fun z => Value.int z) (congrArg Prod.fst hr).symm) ?_
            exact hE _ _ _ _ _ _ (kr_i dX7_find_64) hS (by decide) (by decide) ⟨(uA μ 0 6 (μ.2.1 0 6 + 1)), hM, (by rw [hr]; exact vis_rf _)⟩
          ·
            have hmul : vw * vh ≤ 5 * 4 := Nat.mul_le_mul (by omega) (by omega)
            refine lv_iload_n hx hb dX7_find_41 rfl (lv_at hl 1 rfl) ?_
            refine lv_iload_n hx hb dX7_find_42 rfl (lv_at hl 2 rfl) ?_
            refine n_imul hx hb dX7_find_43 ?_
            refine lv_bipush (v := nI 9) hx hb dX7_find_44 (by decide) ?_
            refine n_icmp_gt (tgt := 58) hx hb dX7_find_46 (by decide) (by first | omega | exact bo63 (Nat.le_trans (shl_le (n := 5) (by omega)) (by decide)) | exact shl_lt (by omega)) (by decide) (fun c_46 => ?_) (fun c_46 => ?_)
            ·
              refine lv_aload_n hx hb dX7_find_58 rfl (lv_at hl 0 rfl) ?_
              refine lv_bipush (v := (-6)) hx hb dX7_find_59 (by decide) ?_
              refine ctV (rest := []) S hK (c_X7_refuse l G om μ (-6) 6 rfl (by decide)) cw_X7_72 rfl ⟨Nat.le_of_ble_eq_true rfl, Nat.le_of_ble_eq_true rfl⟩ ⟨Nat.le_of_ble_eq_true rfl, Nat.le_of_ble_eq_true rfl⟩ (bk.recv hK hM rfl rfl) hl.1 rfl (Nat.le_of_ble_eq_true rfl) dX7_find_61 hM hS (fun _ h => by first | exact h | omega) (fun H locs hPost hz hk hS => ?_)
              have hM := hPost
              have hr : find_M μ (nI vw) (nI vh) (nI vf) = ((-6), uA μ 0 6 (μ.2.1 0 6 + 1)) := by unfold find_M; rw [c_5, if_pos (by rfl), if_neg (fun q => q.elim hge1 hge2), hcw, hch, if_neg (by omega)]
              refine w_top (v' := .int ((find_M μ (nI vw) (nI vh) (nI vf)).1)) (congrArg (fun z => Value.int z) (congrArg Prod.fst hr).symm) ?_
              exact hE _ _ _ _ _ _ (kr_i dX7_find_64) hS (by decide) (by decide) ⟨(uA μ 0 6 (μ.2.1 0 6 + 1)), hM, (by rw [hr]; exact vis_rf _)⟩
            ·
              refine lv_aload_n hx hb dX7_find_49 rfl (lv_at hl 0 rfl) ?_
              refine kg (C := RX7) (T := TX7) (N := 32) (ci := 5) (k := 16) (v := .int (nI (μ.1 16))) S hK rfl inX7 (by decide) q_746 dX7_find_50 hM rfl rfl ?_
              refine lv_bipush (v := nI 24) hx hb dX7_find_53 (by decide) ?_
              refine n_icmp_ne (tgt := 65) hx hb dX7_find_55 (by decide) (by first | omega | exact bo63 (Nat.le_trans (shl_le (n := 5) (by omega)) (by decide)) | exact shl_lt (by omega)) (by decide) (fun c_55 => ?_) (fun c_55 => ?_)
              ·
                refine lv_aload_n hx hb dX7_find_65 rfl (lv_at hl 0 rfl) ?_
                refine lv_iload_n hx hb dX7_find_66 rfl (lv_at hl 1 rfl) ?_
                refine lv_iload_n hx hb dX7_find_67 rfl (lv_at hl 2 rfl) ?_
                refine crV (rest := []) S hK (c_X7_isRow l G om μ vw vh hr0 (by omega) (by omega)) cw_X7_220 rfl ⟨Nat.le_of_ble_eq_true rfl, Nat.le_of_ble_eq_true rfl⟩ ⟨Nat.le_of_ble_eq_true rfl, Nat.le_of_ble_eq_true rfl⟩ (bk.recv hK hM rfl rfl) hl.1 rfl (Nat.le_of_ble_eq_true rfl) dX7_find_68 hM ?_
                refine z_if_ne (tgt := 81) hx hb dX7_find_71 (by decide) (fun c_71 => ?_) (fun c_71 => ?_)
                ·
                  have hrow := of_decide_eq_true c_71
                  have hro : μ.1 20 ≤ vw * vh := row_le hr0 hrow (by omega) (by omega)
                  refine lv_aload_n hx hb dX7_find_81 rfl (lv_at hl 0 rfl) ?_
                  refine lv_aload_n hx hb dX7_find_82 rfl (lv_at hl 0 rfl) ?_
                  refine kg (C := RX7) (T := TX7) (N := 32) (ci := 5) (k := 16) (v := .int (nI (μ.1 16))) S hK rfl inX7 (by decide) q_746 dX7_find_83 hM rfl rfl ?_
                  refine lv_iload_n hx hb dX7_find_86 rfl (lv_at hl 1 rfl) ?_
                  refine lv_iload_n hx hb dX7_find_87 rfl (lv_at hl 2 rfl) ?_
                  refine lv_aload_n hx hb dX7_find_88 rfl (lv_at hl 0 rfl) ?_
                  refine kg (C := RX7) (T := TX7) (N := 32) (ci := 5) (k := 20) (v := .int (nI (μ.1 20))) S hK rfl inX7 (by decide) q_750 dX7_find_89 hM rfl rfl ?_
                  refine ctVv (rest := []) S hK (c_X7_begins l G om μ (μ.1 16) vw vh (μ.1 20) (by omega)) cw_X7_89 rfl ⟨Nat.le_of_ble_eq_true rfl, Nat.le_of_ble_eq_true rfl⟩ ⟨Nat.le_of_ble_eq_true rfl, Nat.le_of_ble_eq_true rfl⟩ (bk.recv hK hM rfl rfl) hl.1 rfl (Nat.le_of_ble_eq_true rfl) dX7_find_92 hM hS (fun _ h => by first | exact h | omega) (fun H locs hPost hz hk hS => ?_)
                  have hM := hPost
                  have hbp := bg_pth μ (μ.1 16) vw vh (μ.1 20)
                  refine lv_aload_n hx hb dX7_find_95 rfl (lv_at hl 0 rfl) ?_
                  refine lv_iload_n hx hb dX7_find_96 rfl (lv_at hl 3 rfl) ?_
                  refine lv_aload_n hx hb dX7_find_97 rfl (lv_at hl 0 rfl) ?_
                  refine kg (C := RX7) (T := TX7) (N := 32) (ci := 5) (k := 20) (v := .int (nI ((clZ (uA (uA (uA μ 1 (μ.1 16) vw) 2 (μ.1 16) vh) 3 (μ.1 16) (μ.1 20)) (μ.1 16) 20).1 20))) S hK rfl inX7 (by decide) q_750 dX7_find_98 hM rfl rfl ?_
                  refine w_top (v' := .int (nI (μ.1 20))) (congrArg (fun z => Value.int (nI z)) (hbp.1 20 (by decide))) ?_
                  refine ctV (rest := []) S hK (c_X7_meansOf l G om (clZ (uA (uA (uA μ 1 (μ.1 16) vw) 2 (μ.1 16) vh) 3 (μ.1 16) (μ.1 20)) (μ.1 16) 20) vf (μ.1 20) (by omega) (by omega) (by rw [hbp.2.1 6 (by decide) (by decide)]; exact (hif.2 vf hvf).1) (by rw [hbp.2.1 6 (by decide) (by decide), hbp.2.1 5 (by decide) (by decide)]; exact (hif.2 vf hvf).2)) cw_X7_197 rfl ⟨Nat.le_of_ble_eq_true rfl, Nat.le_of_ble_eq_true rfl⟩ ⟨Nat.le_of_ble_eq_true rfl, Nat.le_of_ble_eq_true rfl⟩ (bk.recv hK hM rfl rfl) hl.1 rfl (Nat.le_of_ble_eq_true rfl) dX7_find_101 hM hS (fun _ h => by first | exact h | omega) (fun H locs hPost hz hk hS => ?_)
                  obtain ⟨σ1, hM, hq1⟩ := hPost
                  refine w_top (v' := .long (lN (bo (trB μ vf) (1 <<< μ.1 20)))) (congrArg (fun z => Value.long (lN z)) (bo_congr fun s _ => trB_c (hbp.2.1 5 (by decide) (by decide)) (hbp.2.1 6 (by decide) (by decide)) vf s)) ?_
                  refine lv_lstore (lv' := [(4, .long (lN (bo (trB μ vf) (1 <<< μ.1 20)))), (0, .ref om), (1, .int (nI vw)), (2, .int (nI vh)), (3, .int (nI vf))]) hx hb dX7_find_104 hl (by decide) rfl (fun ls hl => ?_)
                  have hNW0 : NW μ vw vh (μ.1 20) (fun _ => 0) σ1 := by
                    refine ⟨⟨fun k hk8 => (hq1.1 k hk8).trans (hbp.1 k hk8), fun k hk8 z => by rw [hq1.2 k hk8]; exact hbp.2.1 k hk8 z, fun i hi => by rw [hq1.2 1 (by decide), hq1.2 2 (by decide), hq1.2 3 (by decide)]; exact hbp.2.2.1 i hi, fun i hi => by rw [hq1.2 4 (by decide)]; exact hbp.2.2.2 i hi⟩, ?_, ?_, ?_, fun k hk8 => ?_⟩
                    · rw [hq1.2 1 (by decide)]; exact bg_1 _ _ _ _ _
                    · rw [hq1.2 2 (by decide)]; exact bg_2 _ _ _ _ _
                    · rw [hq1.2 3 (by decide)]; exact bg_3 _ _ _ _ _
                    · rw [hq1.2 4 (by decide)]; exact bg_4 _ _ _ _ _ hk8
                  refine lv_bipush (v := (-9)) hx hb dX7_find_106 (by decide) ?_
                  refine lv_istore (lv' := [(6, .int (-9)), (4, .long (lN (bo (trB μ vf) (1 <<< μ.1 20)))), (0, .ref om), (1, .int (nI vw)), (2, .int (nI vh)), (3, .int (nI vf))]) hx hb dX7_find_108 hl (by decide) rfl (fun ls hl => ?_)
                  refine lv_iconst (v := nI 0) hx hb dX7_find_110 (by decide) ?_
                  refine lv_istore (lv' := [(7, .int (nI 0)), (6, .int (-9)), (4, .long (lN (bo (trB μ vf) (1 <<< μ.1 20)))), (0, .ref om), (1, .int (nI vw)), (2, .int (nI vh)), (3, .int (nI vf))]) hx hb dX7_find_111 hl (by decide) rfl (fun ls hl => ?_)
                  have L113 : ∀ (fu : Nat), ∀ (vb : Nat) (ρ : Sx) (c0 : Nat → Nat) (vo : Option Nat), (vb ≤ 1 <<< (vw * vh - μ.1 20)) → (NW μ vw vh (μ.1 20) c0 ρ) → (∀ k, k < 20 → ¬ (k % 5 < vw ∧ k / 5 < vh) → c0 k = 0) → ((vo = none ∧ fiD μ vw vh vf = fnd (fiB μ vw vh vf) (1 <<< (vw * vh - μ.1 20) - vb) vb) ∨ ∃ b, vo = some b ∧ fiD μ vw vh vf = some b ∧ NW μ vw vh (μ.1 20) (lyC μ vw vh b) ρ) → 1 <<< (vw * vh - μ.1 20) - vb < fu → ∀ (H : Heap) (locs : List Loc), bk G om (mL G om ρ) H → va_S (fun q => om ≤ q ∧ q < om + 20) zs.heap H locs → ∀ ls : Array Slot, lv_has ls 8 [(0, .ref om), (1, .int (nI vw)), (2, .int (nI vh)), (3, .int (nI vf)), (4, .long (lN (bo (trB μ vf) (1 <<< μ.1 20)))), (6, .int (fiV μ vo)), (7, .int (nI vb))] → W zp l ze (rL 25 0 0) zs zm za zb zt zc H locs 0 0 Q (F0 zm 113 ls []) := by
                    intro fu
                    induction fu with
                    | zero =>
                      intro vb ρ c0 vo hvb hNw hz0 hst hmu H locs hM hS ls hl
                      exact absurd hmu (Nat.not_lt_zero _)
                    | succ fu ih113 =>
                      intro vb ρ c0 vo hvb hNw hz0 hst hmu H locs hM hS ls hl
                      have hpr := hNw.1
                      have h20b := hpr.1 20 (by decide)
                      have h16b := hpr.1 16 (by decide)
                      have hN20 : 1 <<< (vw * vh - μ.1 20) ≤ 2 ^ 20 := shl_le (by omega)
                      refine lv_iload hx hb dX7_find_113 (lv_at hl 6 rfl) ?_
                      refine lv_iconst (v := nI 1) hx hb dX7_find_115 (by decide) ?_
                      refine lv_iload_n hx hb dX7_find_116 rfl (lv_at hl 1 rfl) ?_
                      refine lv_iload_n hx hb dX7_find_117 rfl (lv_at hl 2 rfl) ?_
                      refine n_imul hx hb dX7_find_118 ?_
                      refine lv_aload_n hx hb dX7_find_119 rfl (lv_at hl 0 rfl) ?_
                      refine kg (C := RX7) (T := TX7) (N := 32) (ci := 5) (k := 20) (v := .int (nI (ρ.1 20))) S hK rfl inX7 (by decide) q_750 dX7_find_120 hM rfl rfl ?_
                      refine w_top (v' := .int (nI (μ.1 20))) (congrArg (fun z => Value.int (nI z)) h20b) ?_
                      refine n_isub hx hb dX7_find_123 hro ?_
                      refine n_ishl hx hb dX7_find_124 (by first | omega | exact bo63 (Nat.le_trans (shl_le (n := 5) (by omega)) (by decide)) | exact shl_lt (by omega)) ?_
                      refine n_icmp_ge (tgt := 176) hx hb dX7_find_125 (by decide) (by first | omega | exact bo63 (Nat.le_trans (shl_le (n := 5) (by omega)) (by decide)) | exact shl_lt (by omega)) (by first | omega | exact bo63 (Nat.le_trans (shl_le (n := 5) (by omega)) (by decide)) | exact shl_lt (by omega)) (fun c_125 => ?_) (fun c_125 => ?_)
                      ·
                        refine lv_aload_n hx hb dX7_find_176 rfl (lv_at hl 0 rfl) ?_
                        refine lv_iconst (v := nI 0) hx hb dX7_find_177 (by decide) ?_
                        refine kp (C := RX7) (T := TX7) (N := 32) (ci := 5) (k := 20) (ty := .int) tyX7 tyX7_ok nmX7 S hK rfl inX7 (by decide) q_750 rfl dX7_find_178 rfl rfl rfl hM rfl (Nat.le_of_ble_eq_true rfl) (L1 := mL G om (uS ρ 20 0)) rfl hS (by first | exact ⟨by omega, by omega⟩ | omega) (fun H locs hM hS hz2 hk => ?_)
                        refine lv_aload_n hx hb dX7_find_181 rfl (lv_at hl 0 rfl) ?_
                        refine lv_dup hx hb dX7_find_182 rfl ?_
                        refine kg (C := RX7) (T := TX7) (N := 32) (ci := 5) (k := 16) (v := .int (nI (ρ.1 16))) S hK rfl inX7 (by decide) q_746 dX7_find_183 hM rfl rfl ?_
                        refine lv_iload hx hb dX7_find_186 (lv_at hl 5 rfl) ?_
                        refine lv_if_ge (tgt := 195) hx hb dX7_find_188 (by decide) (fun c_188 => ?_) (fun c_188 => ?_)
                        ·
                          have hso : ∃ b, vo = some b ∧ fiD μ vw vh vf = some b ∧ NW μ vw vh (μ.1 20) (lyC μ vw vh b) ρ := by
                            rcases hst with ⟨z, -⟩ | z
                            · rw [z] at c_188; exact absurd c_188 (show ¬ (0 : Int32) ≤ -9 by decide)
                            · exact z
                          obtain ⟨b, rfl, hfb, hNb⟩ := hso
                          have hr : find_M μ (nI vw) (nI vh) (nI vf) = (nI (μ.1 16), nwP (uS μ 20 0) vw vh (μ.1 20) (lyC μ vw vh b)) := by unfold find_M; rw [c_5, if_pos (by rfl), if_neg (fun q => q.elim hge1 hge2), hcw, hch, hcf, if_pos ⟨by omega, by omega, by omega, by omega⟩, if_pos hrow]; exact fiR_s hfb
                          have hfr := hr
                          have hvs : vis (uS (uS ρ 20 0) 16 (ρ.1 16 + 1)) (nwP (uS μ 20 0) vw vh (μ.1 20) (lyC μ vw vh b)) := by
                            rw [h16b]
                            exact vis_nw (NW_S hNb)
                          refine lv_iconst (v := nI 1) hx hb dX7_find_195 (by decide) ?_
                          refine n_iadd hx hb dX7_find_196 ?_
                          refine kp (C := RX7) (T := TX7) (N := 32) (ci := 5) (k := 16) (ty := .int) tyX7 tyX7_ok nmX7 S hK rfl inX7 (by decide) q_746 rfl dX7_find_197 rfl rfl rfl hM rfl (Nat.le_of_ble_eq_true rfl) (L1 := mL G om (uS (uS ρ 20 0) 16 ((ρ.1 16) + 1))) rfl hS (by first | exact ⟨by omega, by omega⟩ | omega) (fun H locs hM hS hz2 hk => ?_)
                          refine lv_iload hx hb dX7_find_200 (lv_at hl 5 rfl) ?_
                          have hr := hfr
                          refine w_top (v' := .int ((find_M μ (nI vw) (nI vh) (nI vf)).1)) (congrArg (fun z => Value.int z) (show (fiV μ (some b)) = ((find_M μ (nI vw) (nI vh) (nI vf)).1) from (congrArg Prod.fst hr).symm)) ?_
                          exact hE _ _ _ _ _ _ (kr_i dX7_find_202) hS (by decide) (by decide) ⟨(uS (uS ρ 20 0) 16 ((ρ.1 16) + 1)), hM, (by rw [hr]; exact hvs)⟩
                        ·
                          have hno : vo = none ∧ fiD μ vw vh vf = none := by
                            rcases hst with ⟨z, y⟩ | ⟨b, z, -⟩
                            · refine ⟨z, ?_⟩
                              first
                                | (rw [y, show 1 <<< (vw * vh - μ.1 20) - vb = 0 from by omega]; rfl)
                                | (rw [z] at c_130; exact absurd c_130 (show ¬ (0 : Int32) ≤ -9 by decide))
                            · rw [z] at c_188
                              exact absurd (Int32.not_lt.mp (n9_lt (by omega) : ¬ nI (μ.1 16) < 0)) c_188
                          obtain ⟨rfl, hfn⟩ := hno
                          have hr : find_M μ (nI vw) (nI vh) (nI vf) = (-9, uS μ 20 0) := by unfold find_M; rw [c_5, if_pos (by rfl), if_neg (fun q => q.elim hge1 hge2), hcw, hch, hcf, if_pos ⟨by omega, by omega, by omega, by omega⟩, if_pos hrow]; exact fiR_n hfn
                          have hfr := hr
                          have hvs : vis (uS (uS ρ 20 0) 16 (ρ.1 16 + 0)) (uS μ 20 0) := vis_20 hNw.1
                          refine lv_iconst (v := nI 0) hx hb dX7_find_191 (by decide) ?_
                          refine lv_goto (tgt := 196) hx hb dX7_find_192 (by decide) ?_
                          refine n_iadd hx hb dX7_find_196 ?_
                          refine kp (C := RX7) (T := TX7) (N := 32) (ci := 5) (k := 16) (ty := .int) tyX7 tyX7_ok nmX7 S hK rfl inX7 (by decide) q_746 rfl dX7_find_197 rfl rfl rfl hM rfl (Nat.le_of_ble_eq_true rfl) (L1 := mL G om (uS (uS ρ 20 0) 16 ((ρ.1 16) + 0))) rfl hS (by first | exact ⟨by omega, by omega⟩ | omega) (fun H locs hM hS hz2 hk => ?_)
                          refine lv_iload hx hb dX7_find_200 (lv_at hl 5 rfl) ?_
                          have hr := hfr
                          refine w_top (v' := .int ((find_M μ (nI vw) (nI vh) (nI vf)).1)) (congrArg (fun z => Value.int z) (show (fiV μ none) = ((find_M μ (nI vw) (nI vh) (nI vf)).1) from (congrArg Prod.fst hr).symm)) ?_
                          exact hE _ _ _ _ _ _ (kr_i dX7_find_202) hS (by decide) (by decide) ⟨(uS (uS ρ 20 0) 16 ((ρ.1 16) + 0)), hM, (by rw [hr]; exact hvs)⟩
                      ·
                        refine lv_iload hx hb dX7_find_128 (lv_at hl 5 rfl) ?_
                        refine lv_if_ge (tgt := 176) hx hb dX7_find_130 (by decide) (fun c_130 => ?_) (fun c_130 => ?_)
                        ·
                          refine lv_aload_n hx hb dX7_find_176 rfl (lv_at hl 0 rfl) ?_
                          refine lv_iconst (v := nI 0) hx hb dX7_find_177 (by decide) ?_
                          refine kp (C := RX7) (T := TX7) (N := 32) (ci := 5) (k := 20) (ty := .int) tyX7 tyX7_ok nmX7 S hK rfl inX7 (by decide) q_750 rfl dX7_find_178 rfl rfl rfl hM rfl (Nat.le_of_ble_eq_true rfl) (L1 := mL G om (uS ρ 20 0)) rfl hS (by first | exact ⟨by omega, by omega⟩ | omega) (fun H locs hM hS hz2 hk => ?_)
                          refine lv_aload_n hx hb dX7_find_181 rfl (lv_at hl 0 rfl) ?_
                          refine lv_dup hx hb dX7_find_182 rfl ?_
                          refine kg (C := RX7) (T := TX7) (N := 32) (ci := 5) (k := 16) (v := .int (nI (ρ.1 16))) S hK rfl inX7 (by decide) q_746 dX7_find_183 hM rfl rfl ?_
                          refine lv_iload hx hb dX7_find_186 (lv_at hl 5 rfl) ?_
                          refine lv_if_ge (tgt := 195) hx hb dX7_find_188 (by decide) (fun c_188 => ?_) (fun c_188 => ?_)
                          ·
                            have hso : ∃ b, vo = some b ∧ fiD μ vw vh vf = some b ∧ NW μ vw vh (μ.1 20) (lyC μ vw vh b) ρ := by
                              rcases hst with ⟨z, -⟩ | z
                              · rw [z] at c_188; exact absurd c_188 (show ¬ (0 : Int32) ≤ -9 by decide)
                              · exact z
                            obtain ⟨b, rfl, hfb, hNb⟩ := hso
                            have hr : find_M μ (nI vw) (nI vh) (nI vf) = (nI (μ.1 16), nwP (uS μ 20 0) vw vh (μ.1 20) (lyC μ vw vh b)) := by unfold find_M; rw [c_5, if_pos (by rfl), if_neg (fun q => q.elim hge1 hge2), hcw, hch, hcf, if_pos ⟨by omega, by omega, by omega, by omega⟩, if_pos hrow]; exact fiR_s hfb
                            have hfr := hr
                            have hvs : vis (uS (uS ρ 20 0) 16 (ρ.1 16 + 1)) (nwP (uS μ 20 0) vw vh (μ.1 20) (lyC μ vw vh b)) := by
                              rw [h16b]
                              exact vis_nw (NW_S hNb)
                            refine lv_iconst (v := nI 1) hx hb dX7_find_195 (by decide) ?_
                            refine n_iadd hx hb dX7_find_196 ?_
                            refine kp (C := RX7) (T := TX7) (N := 32) (ci := 5) (k := 16) (ty := .int) tyX7 tyX7_ok nmX7 S hK rfl inX7 (by decide) q_746 rfl dX7_find_197 rfl rfl rfl hM rfl (Nat.le_of_ble_eq_true rfl) (L1 := mL G om (uS (uS ρ 20 0) 16 ((ρ.1 16) + 1))) rfl hS (by first | exact ⟨by omega, by omega⟩ | omega) (fun H locs hM hS hz2 hk => ?_)
                            refine lv_iload hx hb dX7_find_200 (lv_at hl 5 rfl) ?_
                            have hr := hfr
                            refine w_top (v' := .int ((find_M μ (nI vw) (nI vh) (nI vf)).1)) (congrArg (fun z => Value.int z) (show (fiV μ (some b)) = ((find_M μ (nI vw) (nI vh) (nI vf)).1) from (congrArg Prod.fst hr).symm)) ?_
                            exact hE _ _ _ _ _ _ (kr_i dX7_find_202) hS (by decide) (by decide) ⟨(uS (uS ρ 20 0) 16 ((ρ.1 16) + 1)), hM, (by rw [hr]; exact hvs)⟩
                          ·
                            have hno : vo = none ∧ fiD μ vw vh vf = none := by
                              rcases hst with ⟨z, y⟩ | ⟨b, z, -⟩
                              · refine ⟨z, ?_⟩
                                first
                                  | (rw [y, show 1 <<< (vw * vh - μ.1 20) - vb = 0 from by omega]; rfl)
                                  | (rw [z] at c_130; exact absurd c_130 (show ¬ (0 : Int32) ≤ -9 by decide))
                              · rw [z] at c_188
                                exact absurd (Int32.not_lt.mp (n9_lt (by omega) : ¬ nI (μ.1 16) < 0)) c_188
                            obtain ⟨rfl, hfn⟩ := hno
                            have hr : find_M μ (nI vw) (nI vh) (nI vf) = (-9, uS μ 20 0) := by unfold find_M; rw [c_5, if_pos (by rfl), if_neg (fun q => q.elim hge1 hge2), hcw, hch, hcf, if_pos ⟨by omega, by omega, by omega, by omega⟩, if_pos hrow]; exact fiR_n hfn
                            have hfr := hr
                            have hvs : vis (uS (uS ρ 20 0) 16 (ρ.1 16 + 0)) (uS μ 20 0) := vis_20 hNw.1
                            refine lv_iconst (v := nI 0) hx hb dX7_find_191 (by decide) ?_
                            refine lv_goto (tgt := 196) hx hb dX7_find_192 (by decide) ?_
                            refine n_iadd hx hb dX7_find_196 ?_
                            refine kp (C := RX7) (T := TX7) (N := 32) (ci := 5) (k := 16) (ty := .int) tyX7 tyX7_ok nmX7 S hK rfl inX7 (by decide) q_746 rfl dX7_find_197 rfl rfl rfl hM rfl (Nat.le_of_ble_eq_true rfl) (L1 := mL G om (uS (uS ρ 20 0) 16 ((ρ.1 16) + 0))) rfl hS (by first | exact ⟨by omega, by omega⟩ | omega) (fun H locs hM hS hz2 hk => ?_)
                            refine lv_iload hx hb dX7_find_200 (lv_at hl 5 rfl) ?_
                            have hr := hfr
                            refine w_top (v' := .int ((find_M μ (nI vw) (nI vh) (nI vf)).1)) (congrArg (fun z => Value.int z) (show (fiV μ none) = ((find_M μ (nI vw) (nI vh) (nI vf)).1) from (congrArg Prod.fst hr).symm)) ?_
                            exact hE _ _ _ _ _ _ (kr_i dX7_find_202) hS (by decide) (by decide) ⟨(uS (uS ρ 20 0) 16 ((ρ.1 16) + 0)), hM, (by rw [hr]; exact hvs)⟩
                        ·
                          have hvo : vo = none := by
                            rcases hst with ⟨z, -⟩ | ⟨b, z, -⟩
                            · exact z
                            · rw [z] at c_130
                              exact absurd (Int32.not_lt.mp (n9_lt (by omega) : ¬ nI (μ.1 16) < 0)) c_130
                          have hfd : fiD μ vw vh vf = fnd (fiB μ vw vh vf) (1 <<< (vw * vh - μ.1 20) - vb) vb := by
                            rcases hst with ⟨-, z⟩ | ⟨b, z, -⟩
                            · exact z
                            · rw [hvo] at z; cases z
                          refine lv_aload_n hx hb dX7_find_133 rfl (lv_at hl 0 rfl) ?_
                          refine lv_aload_n hx hb dX7_find_134 rfl (lv_at hl 0 rfl) ?_
                          refine kg (C := RX7) (T := TX7) (N := 32) (ci := 5) (k := 16) (v := .int (nI (ρ.1 16))) S hK rfl inX7 (by decide) q_746 dX7_find_135 hM rfl rfl ?_
                          refine w_top (v' := .int (nI (μ.1 16))) (congrArg (fun z => Value.int (nI z)) h16b) ?_
                          refine lv_iload_n hx hb dX7_find_138 rfl (lv_at hl 1 rfl) ?_
                          refine lv_iload_n hx hb dX7_find_139 rfl (lv_at hl 2 rfl) ?_
                          refine lv_iload hx hb dX7_find_140 (lv_at hl 6 rfl) ?_
                          refine ctVv (rest := []) S hK (c_X7_lays l G om ρ μ vw vh vb (μ.1 20) c0 hr0 (by omega) (by omega) (by omega) (by omega) hNw hz0) cw_X7_223 rfl ⟨Nat.le_of_ble_eq_true rfl, Nat.le_of_ble_eq_true rfl⟩ ⟨Nat.le_of_ble_eq_true rfl, Nat.le_of_ble_eq_true rfl⟩ (bk.recv hK hM rfl rfl) hl.1 rfl (Nat.le_of_ble_eq_true rfl) dX7_find_142 hM hS (fun _ h => by first | exact h | omega) (fun H locs hPost hz hk hS => ?_)
                          obtain ⟨ρ2, hM, hN2⟩ := hPost
                          refine lv_aload_n hx hb dX7_find_145 rfl (lv_at hl 0 rfl) ?_
                          refine lv_aload_n hx hb dX7_find_146 rfl (lv_at hl 0 rfl) ?_
                          refine kg (C := RX7) (T := TX7) (N := 32) (ci := 5) (k := 16) (v := .int (nI (ρ2.1 16))) S hK rfl inX7 (by decide) q_746 dX7_find_147 hM rfl rfl ?_
                          refine w_top (v' := .int (nI (μ.1 16))) (congrArg (fun z => Value.int (nI z)) (hN2.1.1 16 (by decide))) ?_
                          refine crV (rest := []) S hK (c_X7_letsOf l G om ρ2 (μ.1 16) (by omega) (by rw [hN2.2.2.2.1]; omega) (fun k hk8 => by show ρ2.2.1 4 (20 * μ.1 16 + k) < 16; rw [hN2.2.2.2.2 k hk8]; exact lyC_lt hr0 _ _ _ _)) cw_X7_138 rfl ⟨Nat.le_of_ble_eq_true rfl, Nat.le_of_ble_eq_true rfl⟩ ⟨Nat.le_of_ble_eq_true rfl, Nat.le_of_ble_eq_true rfl⟩ (bk.recv hK hM rfl rfl) hl.1 rfl (Nat.le_of_ble_eq_true rfl) dX7_find_150 hM ?_
                          refine w_top (v' := .long (lN (ltM (lyC μ vw vh vb) (μ.1 20)))) (congrArg (fun z => Value.long (lN z)) (show ltM (clM ρ2 (μ.1 16)) (ρ2.2.1 3 (μ.1 16)) = ltM (lyC μ vw vh vb) (μ.1 20) from by rw [hN2.2.2.2.1]; exact ltM_congr (fun k hk8 => hN2.2.2.2.2 k hk8) _)) ?_
                          refine lv_lload hx hb dX7_find_153 (lv_at hl 4 rfl) ?_
                          refine W.lcmp hx hb dX7_find_155 ?_
                          refine nl_if_ne (tgt := 166) hx hb dX7_find_156 (by decide) (by first | omega | exact bo63 (Nat.le_trans (shl_le (n := 5) (by omega)) (by decide)) | exact shl_lt (by omega)) (by first | omega | exact bo63 (Nat.le_trans (shl_le (n := 5) (by omega)) (by decide)) | exact shl_lt (by omega)) (fun c_156 => ?_) (fun c_156 => ?_)
                          ·
                            refine lv_bipush (v := (-9)) hx hb dX7_find_166 (by decide) ?_
                            refine lv_istore (lv' := [(6, .int (-9)), (0, .ref om), (1, .int (nI vw)), (2, .int (nI vh)), (3, .int (nI vf)), (4, .long (lN (bo (trB μ vf) (1 <<< μ.1 20)))), (7, .int (nI vb))]) hx hb dX7_find_168 hl (by decide) rfl (fun ls hl => ?_)
                            refine lv_iinc (v := (nI (vb + 1))) (lv' := [(7, .int (nI (vb + 1))), (6, .int (-9)), (0, .ref om), (1, .int (nI vw)), (2, .int (nI vh)), (3, .int (nI vf)), (4, .long (lN (bo (trB μ vf) (1 <<< μ.1 20))))]) hx hb dX7_find_170 hl (k := 6) rfl (inc1 _) (by decide) rfl (fun ls hl => ?_)
                            refine lv_goto (tgt := 113) hx hb dX7_find_173 (by decide) ?_
                            replace hl := lv_eq 1 hl rfl (v2 := .int (fiV μ none)) (congrArg (fun z => Value.int z) (show (-9) = (fiV μ none) from rfl))
                            exact ih113 (vb + 1) ρ2 (lyC μ vw vh vb) none (by omega) hN2 (fun k _ z => lyC_0 μ vw vh vb k z) (Or.inl ⟨rfl, hfd.trans (by rw [show 1 <<< (vw * vh - μ.1 20) - vb = (1 <<< (vw * vh - μ.1 20) - (vb + 1)) + 1 from by omega]; exact fnd_f (P := fiB μ vw vh vf) (decide_eq_false c_156))⟩) (by omega) _ _ hM hS ls (lv_sub hl [2, 3, 4, 5, 6, 1, 0] rfl)
                          ·
                            refine lv_aload_n hx hb dX7_find_159 rfl (lv_at hl 0 rfl) ?_
                            refine kg (C := RX7) (T := TX7) (N := 32) (ci := 5) (k := 16) (v := .int (nI (ρ2.1 16))) S hK rfl inX7 (by decide) q_746 dX7_find_160 hM rfl rfl ?_
                            refine w_top (v' := .int (nI (μ.1 16))) (congrArg (fun z => Value.int (nI z)) (hN2.1.1 16 (by decide))) ?_
                            refine lv_goto (tgt := 168) hx hb dX7_find_163 (by decide) ?_
                            refine lv_istore (lv' := [(6, .int (nI (μ.1 16))), (0, .ref om), (1, .int (nI vw)), (2, .int (nI vh)), (3, .int (nI vf)), (4, .long (lN (bo (trB μ vf) (1 <<< μ.1 20)))), (7, .int (nI vb))]) hx hb dX7_find_168 hl (by decide) rfl (fun ls hl => ?_)
                            refine lv_iinc (v := (nI (vb + 1))) (lv' := [(7, .int (nI (vb + 1))), (6, .int (nI (μ.1 16))), (0, .ref om), (1, .int (nI vw)), (2, .int (nI vh)), (3, .int (nI vf)), (4, .long (lN (bo (trB μ vf) (1 <<< μ.1 20))))]) hx hb dX7_find_170 hl (k := 6) rfl (inc1 _) (by decide) rfl (fun ls hl => ?_)
                            refine lv_goto (tgt := 113) hx hb dX7_find_173 (by decide) ?_
                            replace hl := lv_eq 1 hl rfl (v2 := .int (fiV μ (some vb))) (show (.int (nI (μ.1 16)) : Value) = .int (fiV μ (some vb)) from rfl)
                            exact ih113 (vb + 1) ρ2 (lyC μ vw vh vb) (some vb) (by omega) hN2 (fun k _ z => lyC_0 μ vw vh vb k z) (Or.inr ⟨vb, rfl, hfd.trans (by rw [show 1 <<< (vw * vh - μ.1 20) - vb = (1 <<< (vw * vh - μ.1 20) - (vb + 1)) + 1 from by omega]; exact fnd_t (P := fiB μ vw vh vf) (decide_eq_true c_156)), hN2⟩) (by omega) _ _ hM hS ls (lv_sub hl [2, 3, 4, 5, 6, 1, 0] rfl)
                  replace hl := lv_eq 1 hl rfl (v2 := .int (fiV μ none)) (congrArg (fun z => Value.int z) (show (-9) = (fiV μ none) from rfl))
                  exact L113 ((1 <<< (vw * vh - μ.1 20) - 0) + 1) 0 σ1 (fun _ => 0) none (Nat.zero_le _) hNW0 (fun _ _ _ => rfl) (Or.inl ⟨rfl, rfl⟩) (Nat.lt_succ_self _) _ _ hM hS ls (lv_sub hl [3, 4, 5, 6, 2, 1, 0] rfl)
                ·
                  refine lv_aload_n hx hb dX7_find_74 rfl (lv_at hl 0 rfl) ?_
                  refine lv_bipush (v := (-3)) hx hb dX7_find_75 (by decide) ?_
                  refine ctV (rest := []) S hK (c_X7_refuse l G om μ (-3) 3 rfl (by decide)) cw_X7_72 rfl ⟨Nat.le_of_ble_eq_true rfl, Nat.le_of_ble_eq_true rfl⟩ ⟨Nat.le_of_ble_eq_true rfl, Nat.le_of_ble_eq_true rfl⟩ (bk.recv hK hM rfl rfl) hl.1 rfl (Nat.le_of_ble_eq_true rfl) dX7_find_77 hM hS (fun _ h => by first | exact h | omega) (fun H locs hPost hz hk hS => ?_)
                  have hM := hPost
                  have hr : find_M μ (nI vw) (nI vh) (nI vf) = ((-3), uA μ 0 3 (μ.2.1 0 3 + 1)) := by unfold find_M; rw [c_5, if_pos (by rfl), if_neg (fun q => q.elim hge1 hge2), hcw, hch, if_pos ⟨by omega, by omega, by omega, by omega⟩, if_neg (of_decide_eq_false c_71)]
                  refine w_top (v' := .int ((find_M μ (nI vw) (nI vh) (nI vf)).1)) (congrArg (fun z => Value.int z) (congrArg Prod.fst hr).symm) ?_
                  exact hE _ _ _ _ _ _ (kr_i dX7_find_80) hS (by decide) (by decide) ⟨(uA μ 0 3 (μ.2.1 0 3 + 1)), hM, (by rw [hr]; exact vis_rf _)⟩
              ·
                refine lv_aload_n hx hb dX7_find_58 rfl (lv_at hl 0 rfl) ?_
                refine lv_bipush (v := (-6)) hx hb dX7_find_59 (by decide) ?_
                refine ctV (rest := []) S hK (c_X7_refuse l G om μ (-6) 6 rfl (by decide)) cw_X7_72 rfl ⟨Nat.le_of_ble_eq_true rfl, Nat.le_of_ble_eq_true rfl⟩ ⟨Nat.le_of_ble_eq_true rfl, Nat.le_of_ble_eq_true rfl⟩ (bk.recv hK hM rfl rfl) hl.1 rfl (Nat.le_of_ble_eq_true rfl) dX7_find_61 hM hS (fun _ h => by first | exact h | omega) (fun H locs hPost hz hk hS => ?_)
                have hM := hPost
                have hr : find_M μ (nI vw) (nI vh) (nI vf) = ((-6), uA μ 0 6 (μ.2.1 0 6 + 1)) := by unfold find_M; rw [c_5, if_pos (by rfl), if_neg (fun q => q.elim hge1 hge2), hcw, hch, if_neg (by omega)]
                refine w_top (v' := .int ((find_M μ (nI vw) (nI vh) (nI vf)).1)) (congrArg (fun z => Value.int z) (congrArg Prod.fst hr).symm) ?_
                exact hE _ _ _ _ _ _ (kr_i dX7_find_64) hS (by decide) (by decide) ⟨(uA μ 0 6 (μ.2.1 0 6 + 1)), hM, (by rw [hr]; exact vis_rf _)⟩
      ·
        refine lv_aload_n hx hb dX7_find_24 rfl (lv_at hl 0 rfl) ?_
        refine lv_bipush (v := (-4)) hx hb dX7_find_25 (by decide) ?_
        refine ctV (rest := []) S hK (c_X7_refuse l G om μ (-4) 4 rfl (by decide)) cw_X7_72 rfl ⟨Nat.le_of_ble_eq_true rfl, Nat.le_of_ble_eq_true rfl⟩ ⟨Nat.le_of_ble_eq_true rfl, Nat.le_of_ble_eq_true rfl⟩ (bk.recv hK hM rfl rfl) hl.1 rfl (Nat.le_of_ble_eq_true rfl) dX7_find_27 hM hS (fun _ h => by first | exact h | omega) (fun H locs hPost hz hk hS => ?_)
        have hM := hPost
        have hr : find_M μ w h (nI vf) = ((-4), uA μ 0 4 (μ.2.1 0 4 + 1)) := by unfold find_M; rw [c_5, if_pos (by rfl), if_pos (Or.inr (Int32.not_le.mp c_21))]
        refine w_top (v' := .int ((find_M μ w h (nI vf)).1)) (congrArg (fun z => Value.int z) (congrArg Prod.fst hr).symm) ?_
        exact hE _ _ _ _ _ _ (kr_i dX7_find_30) hS (by decide) (by decide) ⟨(uA μ 0 4 (μ.2.1 0 4 + 1)), hM, (by rw [hr]; exact vis_rf _)⟩
  ·
    refine lv_aload_n hx hb dX7_find_8 rfl (lv_at hl 0 rfl) ?_
    refine lv_iconst (v := (-1)) hx hb dX7_find_9 (by decide) ?_
    refine ctV (rest := []) S hK (c_X7_refuse l G om μ (-1) 1 rfl (by decide)) cw_X7_72 rfl ⟨Nat.le_of_ble_eq_true rfl, Nat.le_of_ble_eq_true rfl⟩ ⟨Nat.le_of_ble_eq_true rfl, Nat.le_of_ble_eq_true rfl⟩ (bk.recv hK hM rfl rfl) hl.1 rfl (Nat.le_of_ble_eq_true rfl) dX7_find_10 hM hS (fun _ h => by first | exact h | omega) (fun H locs hPost hz hk hS => ?_)
    have hM := hPost
    have hr : find_M μ w h f = ((-1), uA μ 0 1 (μ.2.1 0 1 + 1)) := by unfold find_M; rw [c_5] <;> rfl
    refine w_top (v' := .int ((find_M μ w h f).1)) (congrArg (fun z => Value.int z) (congrArg Prod.fst hr).symm) ?_
    exact hE _ _ _ _ _ _ (kr_i dX7_find_13) hS (by decide) (by decide) ⟨(uA μ 0 1 (μ.2.1 0 1 + 1)), hM, (by rw [hr]; exact vis_rf _)⟩
