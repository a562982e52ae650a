
/-! walks: the class's floorNet -/

set_option maxHeartbeats 1000000 in
set_option maxRecDepth 100000 in
theorem c_X6_floorNet (l : Launch) (G : Gt) (o : Nat) (om : Nat) (μ : Sx) (pa : Nat → Nat) (na : Nat → Nat) (nb : Nat) (hb0 : MIb μ) (hn0 : MIn μ) (hif : MIf μ) (hit : MIt μ) (hl0 : MIl μ) (hr0 : MIr μ) : Ct l G yX6_floorNet cX6_floorNet 1 ((some .int)) 7 4 93 [.ref o] (fun H => CWx G o om μ pa na H ∧ H.size = nb) (some (.int ((floorNet_M μ).1))) (fun H => CW G o om (floorNet_M μ).2 H) (fun q => (o ≤ q ∧ q < o + 11) ∨ nb ≤ q) := by
  refine ct_entry [(0, .ref o)] (by decide) (Nat.le_of_ble_eq_true rfl) rfl ?_
  intro zp ze zs zm za zb zt zc Q S hK hPre hin hE ls hl
  have hx := S.1
  have hb := S.2.1
  obtain ⟨hCW, hz⟩ := hPre
  have hS : va_S (fun q => (o ≤ q ∧ q < o + 11) ∨ nb ≤ q) zs.heap zs.heap [] := va_S.rf
  obtain ⟨⟨hoo, hosz, hLH⟩, σ, φ, ρ, hX, hF, hRF, hRX, hWB, hWN, hAP⟩ := id hCW
  obtain ⟨⟨hT1, hT2⟩, ⟨hP1, hP2⟩, ⟨hF1, hF2⟩, ⟨hN1, hN2⟩, ⟨hR1, hR2⟩, ⟨hL1, hL2, hL3, hL4⟩, hRR⟩ := id hRX
  obtain ⟨h16, -⟩ := id hb0
  obtain ⟨h18, -⟩ := id hn0
  obtain ⟨h17, -⟩ := id hif
  obtain ⟨h22, -⟩ := id hit
  obtain ⟨h19, -⟩ := id hl0
  obtain ⟨h20, -⟩ := id hr0
  have hz0 := hz
  have hNB : FB G μ φ zs.heap := ⟨hL1, hL2, hL3, fun k hk8 => by
    obtain ⟨-, β, hB, hBG, -⟩ := hWB _ (hl0.2 k hk8).1
    exact ⟨_, β, hL4 k hk8, hB, hBG⟩⟩
  have hf50 := fcN_5 (F := fcL μ) (Z := mtC μ) (μ.1 19) (fun k hk => fcL_5 hb0 hl0 hk)
  have hbn : ∀ k, k < μ.1 19 → pa (μ.2.1 12 k) + 4 ≤ nb := fun k hk8 => by
    obtain ⟨-, β, hB, -⟩ := hWB _ (hl0.2 k hk8).1
    have := bk.lt (k := 3) hB (show 3 < 4 by decide)
    omega
  have hfn : o + 6 + 4 ≤ nb := by omega
  refine lv_aload_n hx hb dX6_floorNet_0 rfl (lv_at hl 0 rfl) ?_
  refine kg (C := RX6) (T := TX6) (N := 12) (ci := 4) (k := 10) (v := .ref (o + 6)) S hK rfl inX6 (by decide) q_134 dX6_floorNet_1 hX rfl rfl ?_
  refine kg (C := RX2) (T := TX2) (N := 4) (ci := 1) (k := 3) (v := .int (nI (φ.1 3))) S hK rfl inX2 (by decide) q_112 dX6_floorNet_4 hF rfl rfl ?_
  refine n_if_eq (tgt := 34) hx hb dX6_floorNet_7 (by decide) (by omega) (fun c_7 => ?_) (fun c_7 => ?_)
  ·
    refine lv_aload_n hx hb dX6_floorNet_34 rfl (lv_at hl 0 rfl) ?_
    refine lv_bipush (v := (-3)) hx hb dX6_floorNet_35 (by decide) ?_
    refine ctV (rest := []) S hK (c_X6_refuse l G o σ ρ (-3) 3 rfl (by decide)) cw_X6_42 rfl ⟨Nat.le_of_ble_eq_true rfl, Nat.le_of_ble_eq_true rfl⟩ ⟨Nat.le_of_ble_eq_true rfl, Nat.le_of_ble_eq_true rfl⟩ (bk.recv hK hX rfl rfl) hl.1 rfl (Nat.le_of_ble_eq_true rfl) dX6_floorNet_37 ⟨hX, hRF⟩ hS (fun _ h => by first | exact h | omega) (fun H locs hPost hz2 hk hS => ?_)
    obtain ⟨hX, hRF⟩ := hPost
    replace hF := hF.over hk (fun q h1 h2 => by have h3 : q < o + 6 + 4 := h2; intro hA1; omega)
    have hr : floorNet_M μ = ((-3), rfM μ 3) := by unfold floorNet_M; rw [if_pos (Or.inl (by omega))]
    refine w_top (v' := .int ((floorNet_M μ).1)) (congrArg (fun z => Value.int z) (congrArg Prod.fst hr).symm) ?_
    have hcw := CW_r (G := G) (o := o) (om := om) hr (CW_x hCW hS (fun q h => by omega) hX hF hRF (RX_rf hRX) (KP_rf μ _))
    exact hE _ _ _ _ _ _ (kr_i dX6_floorNet_40) hS (by decide) (by decide) hcw
  ·
    refine lv_aload_n hx hb dX6_floorNet_10 rfl (lv_at hl 0 rfl) ?_
    refine kg (C := RX6) (T := TX6) (N := 12) (ci := 4) (k := 10) (v := .ref (o + 6)) S hK rfl inX6 (by decide) q_134 dX6_floorNet_11 hX rfl rfl ?_
    refine crV (rest := []) S hK (c_X2_firstOverlap l G (o + 6) φ μ hb0 hl0) cw_X6_233 rfl ⟨Nat.le_of_ble_eq_true rfl, Nat.le_of_ble_eq_true rfl⟩ ⟨Nat.le_of_ble_eq_true rfl, Nat.le_of_ble_eq_true rfl⟩ (bk.recv hK hF rfl rfl) hl.1 rfl (Nat.le_of_ble_eq_true rfl) dX6_floorNet_14 ⟨hF, hNB⟩ ?_
    refine lv_bipush (v := (-9)) hx hb dX6_floorNet_17 (by decide) ?_
    refine lv_icmp_ne (tgt := 34) hx hb dX6_floorNet_19 (by decide) (fun c_19 => ?_) (fun c_19 => ?_)
    ·
      refine lv_aload_n hx hb dX6_floorNet_34 rfl (lv_at hl 0 rfl) ?_
      refine lv_bipush (v := (-3)) hx hb dX6_floorNet_35 (by decide) ?_
      refine ctV (rest := []) S hK (c_X6_refuse l G o σ ρ (-3) 3 rfl (by decide)) cw_X6_42 rfl ⟨Nat.le_of_ble_eq_true rfl, Nat.le_of_ble_eq_true rfl⟩ ⟨Nat.le_of_ble_eq_true rfl, Nat.le_of_ble_eq_true rfl⟩ (bk.recv hK hX rfl rfl) hl.1 rfl (Nat.le_of_ble_eq_true rfl) dX6_floorNet_37 ⟨hX, hRF⟩ hS (fun _ h => by first | exact h | omega) (fun H locs hPost hz2 hk hS => ?_)
      obtain ⟨hX, hRF⟩ := hPost
      replace hF := hF.over hk (fun q h1 h2 => by have h3 : q < o + 6 + 4 := h2; intro hA1; omega)
      have hr : floorNet_M μ = ((-3), rfM μ 3) := by unfold floorNet_M; rw [if_pos (Or.inr (Or.inl (fun q => c_19 ((ov9_i hl0).mpr q))))]
      refine w_top (v' := .int ((floorNet_M μ).1)) (congrArg (fun z => Value.int z) (congrArg Prod.fst hr).symm) ?_
      have hcw := CW_r (G := G) (o := o) (om := om) hr (CW_x hCW hS (fun q h => by omega) hX hF hRF (RX_rf hRX) (KP_rf μ _))
      exact hE _ _ _ _ _ _ (kr_i dX6_floorNet_40) hS (by decide) (by decide) hcw
    ·
      refine lv_aload_n hx hb dX6_floorNet_22 rfl (lv_at hl 0 rfl) ?_
      refine kg (C := RX6) (T := TX6) (N := 12) (ci := 4) (k := 10) (v := .ref (o + 6)) S hK rfl inX6 (by decide) q_134 dX6_floorNet_23 hX rfl rfl ?_
      refine crV (rest := []) S hK (c_X2_firstLeak l G (o + 6) φ μ hb0 hl0) cw_X6_241 rfl ⟨Nat.le_of_ble_eq_true rfl, Nat.le_of_ble_eq_true rfl⟩ ⟨Nat.le_of_ble_eq_true rfl, Nat.le_of_ble_eq_true rfl⟩ (bk.recv hK hF rfl rfl) hl.1 rfl (Nat.le_of_ble_eq_true rfl) dX6_floorNet_26 ⟨hF, hNB⟩ ?_
      refine lv_bipush (v := (-9)) hx hb dX6_floorNet_29 (by decide) ?_
      refine lv_icmp_eq (tgt := 41) hx hb dX6_floorNet_31 (by decide) (fun c_31 => ?_) (fun c_31 => ?_)
      ·
        refine lv_aload_n hx hb dX6_floorNet_41 rfl (lv_at hl 0 rfl) ?_
        refine kg (C := RX6) (T := TX6) (N := 12) (ci := 4) (k := 10) (v := .ref (o + 6)) S hK rfl inX6 (by decide) q_134 dX6_floorNet_42 hX rfl rfl ?_
        refine kg (C := RX2) (T := TX2) (N := 4) (ci := 1) (k := 3) (v := .int (nI (φ.1 3))) S hK rfl inX2 (by decide) q_112 dX6_floorNet_45 hF rfl rfl ?_
        refine lv_bipush (v := nI 8) hx hb dX6_floorNet_48 (by decide) ?_
        refine n_icmp_gt (tgt := 65) hx hb dX6_floorNet_50 (by decide) (by omega) (by decide) (fun c_50 => ?_) (fun c_50 => ?_)
        ·
          refine lv_aload_n hx hb dX6_floorNet_65 rfl (lv_at hl 0 rfl) ?_
          refine lv_bipush (v := (-6)) hx hb dX6_floorNet_66 (by decide) ?_
          refine ctV (rest := []) S hK (c_X6_refuse l G o σ ρ (-6) 6 rfl (by decide)) cw_X6_42 rfl ⟨Nat.le_of_ble_eq_true rfl, Nat.le_of_ble_eq_true rfl⟩ ⟨Nat.le_of_ble_eq_true rfl, Nat.le_of_ble_eq_true rfl⟩ (bk.recv hK hX rfl rfl) hl.1 rfl (Nat.le_of_ble_eq_true rfl) dX6_floorNet_68 ⟨hX, hRF⟩ hS (fun _ h => by first | exact h | omega) (fun H locs hPost hz2 hk hS => ?_)
          obtain ⟨hX, hRF⟩ := hPost
          replace hF := hF.over hk (fun q h1 h2 => by have h3 : q < o + 6 + 4 := h2; intro hA1; omega)
          have hr : floorNet_M μ = ((-6), rfM μ 6) := by unfold floorNet_M; rw [if_neg (fun q => q.elim (fun q => by omega) (fun q => q.elim (fun q => q ((ov9_i hl0).mp c_19)) (fun q => q ((lk9_i hl0).mp c_31)))), if_pos (Or.inr (Or.inl (by omega)))]
          refine w_top (v' := .int ((floorNet_M μ).1)) (congrArg (fun z => Value.int z) (congrArg Prod.fst hr).symm) ?_
          have hcw := CW_r (G := G) (o := o) (om := om) hr (CW_x hCW hS (fun q h => by omega) hX hF hRF (RX_rf hRX) (KP_rf μ _))
          exact hE _ _ _ _ _ _ (kr_i dX6_floorNet_71) hS (by decide) (by decide) hcw
        ·
          refine lv_aload_n hx hb dX6_floorNet_53 rfl (lv_at hl 0 rfl) ?_
          refine kg (C := RX6) (T := TX6) (N := 12) (ci := 4) (k := 10) (v := .ref (o + 6)) S hK rfl inX6 (by decide) q_134 dX6_floorNet_54 hX rfl rfl ?_
          refine crV (rest := []) S hK (c_X2_meetings l G (o + 6) φ μ hb0 hl0) cw_X6_244 rfl ⟨Nat.le_of_ble_eq_true rfl, Nat.le_of_ble_eq_true rfl⟩ ⟨Nat.le_of_ble_eq_true rfl, Nat.le_of_ble_eq_true rfl⟩ (bk.recv hK hF rfl rfl) hl.1 rfl (Nat.le_of_ble_eq_true rfl) dX6_floorNet_57 ⟨hF, hNB⟩ ?_
          refine lv_bipush (v := nI 12) hx hb dX6_floorNet_60 (by decide) ?_
          refine n_icmp_le (tgt := 72) hx hb dX6_floorNet_62 (by decide) (by omega) (by decide) (fun c_62 => ?_) (fun c_62 => ?_)
          ·
            refine lv_aload_n hx hb dX6_floorNet_72 rfl (lv_at hl 0 rfl) ?_
            refine lv_aload_n hx hb dX6_floorNet_73 rfl (lv_at hl 0 rfl) ?_
            refine kg (C := RX6) (T := TX6) (N := 12) (ci := 4) (k := 10) (v := .ref (o + 6)) S hK rfl inX6 (by decide) q_134 dX6_floorNet_74 hX rfl rfl ?_
            refine ctV (rest := [.ref o]) S hK (c_X2_asNet l G (o + 6) φ μ nb pa hb0 hl0 (by omega) ((lk9_i hl0).mp c_31) hL4 hbn hfn) cw_X6_247 rfl ⟨Nat.le_of_ble_eq_true rfl, Nat.le_of_ble_eq_true rfl⟩ ⟨Nat.le_of_ble_eq_true rfl, Nat.le_of_ble_eq_true rfl⟩ (bk.recv hK hF rfl rfl) hl.1 rfl (Nat.le_of_ble_eq_true rfl) dX6_floorNet_77 ⟨hF, hNB, hz⟩ hS (fun q h => by omega) (fun H locs hPost hz2 hk hS => ?_)
            obtain ⟨hF, hN⟩ := hPost
            replace hX := hX.over hk (fun q h1 h2 => by have h3 : q < o + 6 := h2; intro hA1; omega)
            replace hRF := hRF.over hk (fun q h1 h2 => by have h3 : q < o + 10 + 1 := h2; intro hA1; omega)
            obtain ⟨ν, hT, hNRf⟩ := hN
            by_cases h6 : σ.1 7 < 6
            ·
              refine ctV (rest := []) S hK (c_X6_keepNet_y l G o σ nb ν h6 (by omega)) cw_X6_185 rfl ⟨Nat.le_of_ble_eq_true rfl, Nat.le_of_ble_eq_true rfl⟩ ⟨Nat.le_of_ble_eq_true rfl, Nat.le_of_ble_eq_true rfl⟩ (bk.recv hK hX rfl rfl) hl.1 rfl (Nat.le_of_ble_eq_true rfl) dX6_floorNet_80 ⟨hX, hT⟩ hS (fun q h => by omega) (fun H locs hPost hz hk hS => ?_)
              obtain ⟨hX, hT⟩ := hPost
              replace hF := hF.over hk (fun q h1 h2 => by have h3 : q < o + 6 + 4 := h2; intro hA1; omega)
              replace hRF := hRF.over hk (fun q h1 h2 => by have h3 : q < o + 10 + 1 := h2; intro hA1; omega)
              have hr : floorNet_M μ = ((nI (σ.1 7)), flE μ) := by unfold floorNet_M; rw [if_neg (fun q => q.elim (fun q => by omega) (fun q => q.elim (fun q => q ((ov9_i hl0).mp c_19)) (fun q => q ((lk9_i hl0).mp c_31)))), if_neg (fun q => by omega), hN1]
              refine w_top (v' := .int ((floorNet_M μ).1)) (congrArg (fun z => Value.int z) (congrArg Prod.fst hr).symm) ?_
              have hcw := CW_r (G := G) (o := o) (om := om) hr (CW_n (m := μ.1 18) (b := nb) hCW hn0 hS (fun q h => by omega) hX hF hRF (RX_fl hRX) (by rw [(PR_E μ).1]; exact Nat.lt_succ_self _) (by omega) hT hNRf (NE_fl μ) (AP_nw hCW (by omega) (by rw [(PR_E μ).1] <;> rfl) (by rw [(PR_E μ).1] <;> rfl)))
              exact hE _ _ _ _ _ _ (kr_i dX6_floorNet_83) hS (by decide) (by decide) hcw
            ·
              refine ctV (rest := []) S hK (c_X6_keepNet_n l G o σ ρ nb h6 (by omega)) cw_X6_185 rfl ⟨Nat.le_of_ble_eq_true rfl, Nat.le_of_ble_eq_true rfl⟩ ⟨Nat.le_of_ble_eq_true rfl, Nat.le_of_ble_eq_true rfl⟩ (bk.recv hK hX rfl rfl) hl.1 rfl (Nat.le_of_ble_eq_true rfl) dX6_floorNet_80 ⟨hX, hRF⟩ hS (fun q h => by omega) (fun H locs hPost hz hk hS => ?_)
              obtain ⟨hX, hRF⟩ := hPost
              replace hF := hF.over hk (fun q h1 h2 => by have h3 : q < o + 6 + 4 := h2; intro hA1; omega)
              replace hT := hT.over hk (fun q h1 h2 => by have h3 : q < nb + 4 := h2; intro hA1; omega)
              have hr : floorNet_M μ = ((-6), rfM μ 6) := by unfold floorNet_M; rw [if_neg (fun q => q.elim (fun q => by omega) (fun q => q.elim (fun q => q ((ov9_i hl0).mp c_19)) (fun q => q ((lk9_i hl0).mp c_31)))), if_pos (Or.inl (by omega))]
              refine w_top (v' := .int ((floorNet_M μ).1)) (congrArg (fun z => Value.int z) (congrArg Prod.fst hr).symm) ?_
              have hcw := CW_r (G := G) (o := o) (om := om) hr (CW_x hCW hS (fun q h => by omega) hX hF hRF (RX_rf hRX) (KP_rf μ _))
              exact hE _ _ _ _ _ _ (kr_i dX6_floorNet_83) hS (by decide) (by decide) hcw
          ·
            refine lv_aload_n hx hb dX6_floorNet_65 rfl (lv_at hl 0 rfl) ?_
            refine lv_bipush (v := (-6)) hx hb dX6_floorNet_66 (by decide) ?_
            refine ctV (rest := []) S hK (c_X6_refuse l G o σ ρ (-6) 6 rfl (by decide)) cw_X6_42 rfl ⟨Nat.le_of_ble_eq_true rfl, Nat.le_of_ble_eq_true rfl⟩ ⟨Nat.le_of_ble_eq_true rfl, Nat.le_of_ble_eq_true rfl⟩ (bk.recv hK hX rfl rfl) hl.1 rfl (Nat.le_of_ble_eq_true rfl) dX6_floorNet_68 ⟨hX, hRF⟩ hS (fun _ h => by first | exact h | omega) (fun H locs hPost hz2 hk hS => ?_)
            obtain ⟨hX, hRF⟩ := hPost
            replace hF := hF.over hk (fun q h1 h2 => by have h3 : q < o + 6 + 4 := h2; intro hA1; omega)
            have hr : floorNet_M μ = ((-6), rfM μ 6) := by unfold floorNet_M; rw [if_neg (fun q => q.elim (fun q => by omega) (fun q => q.elim (fun q => q ((ov9_i hl0).mp c_19)) (fun q => q ((lk9_i hl0).mp c_31)))), if_pos (Or.inr (Or.inr (by omega)))]
            refine w_top (v' := .int ((floorNet_M μ).1)) (congrArg (fun z => Value.int z) (congrArg Prod.fst hr).symm) ?_
            have hcw := CW_r (G := G) (o := o) (om := om) hr (CW_x hCW hS (fun q h => by omega) hX hF hRF (RX_rf hRX) (KP_rf μ _))
            exact hE _ _ _ _ _ _ (kr_i dX6_floorNet_71) hS (by decide) (by decide) hcw
      ·
        refine lv_aload_n hx hb dX6_floorNet_34 rfl (lv_at hl 0 rfl) ?_
        refine lv_bipush (v := (-3)) hx hb dX6_floorNet_35 (by decide) ?_
        refine ctV (rest := []) S hK (c_X6_refuse l G o σ ρ (-3) 3 rfl (by decide)) cw_X6_42 rfl ⟨Nat.le_of_ble_eq_true rfl, Nat.le_of_ble_eq_true rfl⟩ ⟨Nat.le_of_ble_eq_true rfl, Nat.le_of_ble_eq_true rfl⟩ (bk.recv hK hX rfl rfl) hl.1 rfl (Nat.le_of_ble_eq_true rfl) dX6_floorNet_37 ⟨hX, hRF⟩ hS (fun _ h => by first | exact h | omega) (fun H locs hPost hz2 hk hS => ?_)
        obtain ⟨hX, hRF⟩ := hPost
        replace hF := hF.over hk (fun q h1 h2 => by have h3 : q < o + 6 + 4 := h2; intro hA1; omega)
        have hr : floorNet_M μ = ((-3), rfM μ 3) := by unfold floorNet_M; rw [if_pos (Or.inr (Or.inr (fun q => c_31 ((lk9_i hl0).mpr q))))]
        refine w_top (v' := .int ((floorNet_M μ).1)) (congrArg (fun z => Value.int z) (congrArg Prod.fst hr).symm) ?_
        have hcw := CW_r (G := G) (o := o) (om := om) hr (CW_x hCW hS (fun q h => by omega) hX hF hRF (RX_rf hRX) (KP_rf μ _))
        exact hE _ _ _ _ _ _ (kr_i dX6_floorNet_40) hS (by decide) (by decide) hcw
