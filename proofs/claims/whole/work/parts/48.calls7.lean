
/-! walks: the class's find -/

set_option maxHeartbeats 1000000 in
set_option maxRecDepth 100000 in
theorem c_X6_find (l : Launch) (G : Gt) (o : Nat) (om : Nat) (μ : Sx) (pa : Nat → Nat) (na : Nat → Nat) (nb : Nat) (w : Int32) (h : Int32) (f : Int32) (hb0 : MIb μ) (hn0 : MIn μ) (hif : MIf μ) (hit : MIt μ) (hl0 : MIl μ) (hr0 : MIr μ) : Ct l G yX6_find cX6_find 5 ((some .int)) 17 8 132 [.ref o, .int w, .int h, .int f] (fun H => CWx G o om μ pa na H ∧ H.size = nb) (some (.int ((find_M μ w h f).1))) (fun H => CW G o om (find_M μ w h f).2 H) (fun q => (o ≤ q ∧ q < o + 11) ∨ nb ≤ q) := by
  refine ct_entry [(0, .ref o), (1, .int w), (2, .int h), (3, .int f)] (by decide) (Nat.le_of_ble_eq_true rfl) rfl ?_
  intro zp ze zs zm za zb zt zc Q S hK hPre hin hE ls hl
  have hx := S.1
  have hb := S.2.1
  obtain ⟨hCW, hz⟩ := hPre
  have hS : va_S (fun q => (o ≤ q ∧ q < o + 11) ∨ nb ≤ q) zs.heap zs.heap [] := va_S.rf
  obtain ⟨⟨hoo, hosz, hLH⟩, σ, φ, ρ, hX, hF, hRF, hRX, hWB, hWN, hAP⟩ := id hCW
  obtain ⟨⟨hT1, hT2⟩, ⟨hP1, hP2⟩, ⟨hF1, hF2⟩, ⟨hN1, hN2⟩, ⟨hR1, hR2⟩, ⟨hL1, hL2, hL3, hL4⟩, hRR⟩ := id hRX
  obtain ⟨h16, -⟩ := id hb0
  obtain ⟨h18, -⟩ := id hn0
  obtain ⟨h17, -⟩ := id hif
  obtain ⟨h22, -⟩ := id hit
  obtain ⟨h19, -⟩ := id hl0
  obtain ⟨h20, -⟩ := id hr0
  have hz0 := hz
  refine lv_aload_n hx hb dX6_find_0 rfl (lv_at hl 0 rfl) ?_
  refine lv_iload_n hx hb dX6_find_1 rfl (lv_at hl 3 rfl) ?_
  refine crV (rest := []) S hK (c_X6_isFormula l G o σ f (by omega)) cw_X6_132 rfl ⟨Nat.le_of_ble_eq_true rfl, Nat.le_of_ble_eq_true rfl⟩ ⟨Nat.le_of_ble_eq_true rfl, Nat.le_of_ble_eq_true rfl⟩ (bk.recv hK hX rfl rfl) hl.1 rfl (Nat.le_of_ble_eq_true rfl) dX6_find_2 hX ?_
  refine z_if_ne (tgt := 14) hx hb dX6_find_5 (by decide) (fun c_5 => ?_) (fun c_5 => ?_)
  ·
    rw [hF1] at c_5
    obtain ⟨vf, hvf, rfl⟩ := inI_x c_5
    have hcf := cx_n (j := vf) (by omega)
    have c5 : inI (nI vf) (μ.1 17) = true := c_5
    refine lv_iload_n hx hb dX6_find_14 rfl (lv_at hl 1 rfl) ?_
    refine lv_iconst (v := nI 1) hx hb dX6_find_15 (by decide) ?_
    refine lv_icmp_lt (tgt := 24) hx hb dX6_find_16 (by decide) (fun c_16 => ?_) (fun c_16 => ?_)
    ·
      refine lv_aload_n hx hb dX6_find_24 rfl (lv_at hl 0 rfl) ?_
      refine lv_bipush (v := (-4)) hx hb dX6_find_25 (by decide) ?_
      refine ctV (rest := []) S hK (c_X6_refuse l G o σ ρ (-4) 4 rfl (by decide)) cw_X6_42 rfl ⟨Nat.le_of_ble_eq_true rfl, Nat.le_of_ble_eq_true rfl⟩ ⟨Nat.le_of_ble_eq_true rfl, Nat.le_of_ble_eq_true rfl⟩ (bk.recv hK hX rfl rfl) hl.1 rfl (Nat.le_of_ble_eq_true rfl) dX6_find_27 ⟨hX, hRF⟩ hS (fun _ h => by first | exact h | omega) (fun H locs hPost hz2 hk hS => ?_)
      obtain ⟨hX, hRF⟩ := hPost
      replace hF := hF.over hk (fun q h1 h2 => by have h3 : q < o + 6 + 4 := h2; intro hA1; omega)
      have hr : find_M μ w h (nI vf) = ((-4), rfM μ 4) := by unfold find_M; rw [c5, if_pos (by rfl), if_pos (Or.inl c_16)]
      refine w_top (v' := .int ((find_M μ w h (nI vf)).1)) (congrArg (fun z => Value.int z) (congrArg Prod.fst hr).symm) ?_
      have hcw := CW_r (G := G) (o := o) (om := om) hr (CW_x hCW hS (fun q h => by omega) hX hF hRF (RX_rf hRX) (KP_rf μ _))
      exact hE _ _ _ _ _ _ (kr_i dX6_find_30) hS (by decide) (by decide) hcw
    ·
      refine lv_iload_n hx hb dX6_find_19 rfl (lv_at hl 2 rfl) ?_
      refine lv_iconst (v := nI 1) hx hb dX6_find_20 (by decide) ?_
      refine lv_icmp_ge (tgt := 31) hx hb dX6_find_21 (by decide) (fun c_21 => ?_) (fun c_21 => ?_)
      ·
        obtain ⟨vw, hw1, hw31, rfl⟩ := ge1 c_16
        have hge1 : ¬ nI vw < nI 1 := c_16
        have hge2 : ¬ h < nI 1 := Int32.not_lt.mpr c_21
        obtain ⟨vh, hh1, hh31, rfl⟩ := ge1 hge2
        have hcw := cx_n hw31
        have hch := cx_n hh31
        refine lv_iload_n hx hb dX6_find_31 rfl (lv_at hl 1 rfl) ?_
        refine lv_iconst (v := nI 5) hx hb dX6_find_32 (by decide) ?_
        refine n_icmp_gt (tgt := 58) hx hb dX6_find_33 (by decide) (by first | omega | exact bo63 (Nat.le_trans (shl_le (n := 5) (by omega)) (by decide))) (by decide) (fun c_33 => ?_) (fun c_33 => ?_)
        ·
          refine lv_aload_n hx hb dX6_find_58 rfl (lv_at hl 0 rfl) ?_
          refine lv_bipush (v := (-6)) hx hb dX6_find_59 (by decide) ?_
          refine ctV (rest := []) S hK (c_X6_refuse l G o σ ρ (-6) 6 rfl (by decide)) cw_X6_42 rfl ⟨Nat.le_of_ble_eq_true rfl, Nat.le_of_ble_eq_true rfl⟩ ⟨Nat.le_of_ble_eq_true rfl, Nat.le_of_ble_eq_true rfl⟩ (bk.recv hK hX rfl rfl) hl.1 rfl (Nat.le_of_ble_eq_true rfl) dX6_find_61 ⟨hX, hRF⟩ hS (fun _ h => by first | exact h | omega) (fun H locs hPost hz2 hk hS => ?_)
          obtain ⟨hX, hRF⟩ := hPost
          replace hF := hF.over hk (fun q h1 h2 => by have h3 : q < o + 6 + 4 := h2; intro hA1; omega)
          have hr : find_M μ (nI vw) (nI vh) (nI vf) = ((-6), rfM μ 6) := by unfold find_M; rw [c5, if_pos (by rfl), if_neg (fun q => q.elim hge1 hge2), hcw, hch, if_neg (by omega)]
          refine w_top (v' := .int ((find_M μ (nI vw) (nI vh) (nI vf)).1)) (congrArg (fun z => Value.int z) (congrArg Prod.fst hr).symm) ?_
          have hcw := CW_r (G := G) (o := o) (om := om) hr (CW_x hCW hS (fun q h => by omega) hX hF hRF (RX_rf hRX) (KP_rf μ _))
          exact hE _ _ _ _ _ _ (kr_i dX6_find_64) hS (by decide) (by decide) hcw
        ·
          refine lv_iload_n hx hb dX6_find_36 rfl (lv_at hl 2 rfl) ?_
          refine lv_iconst (v := nI 4) hx hb dX6_find_37 (by decide) ?_
          refine n_icmp_gt (tgt := 58) hx hb dX6_find_38 (by decide) (by first | omega | exact bo63 (Nat.le_trans (shl_le (n := 5) (by omega)) (by decide))) (by decide) (fun c_38 => ?_) (fun c_38 => ?_)
          ·
            refine lv_aload_n hx hb dX6_find_58 rfl (lv_at hl 0 rfl) ?_
            refine lv_bipush (v := (-6)) hx hb dX6_find_59 (by decide) ?_
            refine ctV (rest := []) S hK (c_X6_refuse l G o σ ρ (-6) 6 rfl (by decide)) cw_X6_42 rfl ⟨Nat.le_of_ble_eq_true rfl, Nat.le_of_ble_eq_true rfl⟩ ⟨Nat.le_of_ble_eq_true rfl, Nat.le_of_ble_eq_true rfl⟩ (bk.recv hK hX rfl rfl) hl.1 rfl (Nat.le_of_ble_eq_true rfl) dX6_find_61 ⟨hX, hRF⟩ hS (fun _ h => by first | exact h | omega) (fun H locs hPost hz2 hk hS => ?_)
            obtain ⟨hX, hRF⟩ := hPost
            replace hF := hF.over hk (fun q h1 h2 => by have h3 : q < o + 6 + 4 := h2; intro hA1; omega)
            have hr : find_M μ (nI vw) (nI vh) (nI vf) = ((-6), rfM μ 6) := by unfold find_M; rw [c5, if_pos (by rfl), if_neg (fun q => q.elim hge1 hge2), hcw, hch, if_neg (by omega)]
            refine w_top (v' := .int ((find_M μ (nI vw) (nI vh) (nI vf)).1)) (congrArg (fun z => Value.int z) (congrArg Prod.fst hr).symm) ?_
            have hcw := CW_r (G := G) (o := o) (om := om) hr (CW_x hCW hS (fun q h => by omega) hX hF hRF (RX_rf hRX) (KP_rf μ _))
            exact hE _ _ _ _ _ _ (kr_i dX6_find_64) hS (by decide) (by decide) hcw
          ·
            have hmul : vw * vh ≤ 5 * 4 := Nat.mul_le_mul (by omega) (by omega)
            refine lv_iload_n hx hb dX6_find_41 rfl (lv_at hl 1 rfl) ?_
            refine lv_iload_n hx hb dX6_find_42 rfl (lv_at hl 2 rfl) ?_
            refine n_imul hx hb dX6_find_43 ?_
            refine lv_bipush (v := nI 9) hx hb dX6_find_44 (by decide) ?_
            refine n_icmp_gt (tgt := 58) hx hb dX6_find_46 (by decide) (by first | omega | exact bo63 (Nat.le_trans (shl_le (n := 5) (by omega)) (by decide))) (by decide) (fun c_46 => ?_) (fun c_46 => ?_)
            ·
              refine lv_aload_n hx hb dX6_find_58 rfl (lv_at hl 0 rfl) ?_
              refine lv_bipush (v := (-6)) hx hb dX6_find_59 (by decide) ?_
              refine ctV (rest := []) S hK (c_X6_refuse l G o σ ρ (-6) 6 rfl (by decide)) cw_X6_42 rfl ⟨Nat.le_of_ble_eq_true rfl, Nat.le_of_ble_eq_true rfl⟩ ⟨Nat.le_of_ble_eq_true rfl, Nat.le_of_ble_eq_true rfl⟩ (bk.recv hK hX rfl rfl) hl.1 rfl (Nat.le_of_ble_eq_true rfl) dX6_find_61 ⟨hX, hRF⟩ hS (fun _ h => by first | exact h | omega) (fun H locs hPost hz2 hk hS => ?_)
              obtain ⟨hX, hRF⟩ := hPost
              replace hF := hF.over hk (fun q h1 h2 => by have h3 : q < o + 6 + 4 := h2; intro hA1; omega)
              have hr : find_M μ (nI vw) (nI vh) (nI vf) = ((-6), rfM μ 6) := by unfold find_M; rw [c5, if_pos (by rfl), if_neg (fun q => q.elim hge1 hge2), hcw, hch, if_neg (by omega)]
              refine w_top (v' := .int ((find_M μ (nI vw) (nI vh) (nI vf)).1)) (congrArg (fun z => Value.int z) (congrArg Prod.fst hr).symm) ?_
              have hcw := CW_r (G := G) (o := o) (om := om) hr (CW_x hCW hS (fun q h => by omega) hX hF hRF (RX_rf hRX) (KP_rf μ _))
              exact hE _ _ _ _ _ _ (kr_i dX6_find_64) hS (by decide) (by decide) hcw
            ·
              refine lv_aload_n hx hb dX6_find_49 rfl (lv_at hl 0 rfl) ?_
              refine kg (C := RX6) (T := TX6) (N := 12) (ci := 4) (k := 3) (v := .int (nI (σ.1 3))) S hK rfl inX6 (by decide) q_127 dX6_find_50 hX rfl rfl ?_
              refine lv_bipush (v := nI 24) hx hb dX6_find_53 (by decide) ?_
              refine n_icmp_lt (tgt := 65) hx hb dX6_find_55 (by decide) (by first | omega | exact bo63 (Nat.le_trans (shl_le (n := 5) (by omega)) (by decide))) (by decide) (fun c_55 => ?_) (fun c_55 => ?_)
              ·
                refine lv_aload_n hx hb dX6_find_65 rfl (lv_at hl 0 rfl) ?_
                refine lv_iload_n hx hb dX6_find_66 rfl (lv_at hl 1 rfl) ?_
                refine lv_iload_n hx hb dX6_find_67 rfl (lv_at hl 2 rfl) ?_
                refine crV (rest := []) S hK (c_X6_rowStandsOn l G o σ μ vw vh hR1 hR2 hr0 (by omega) (by omega)) cw_X6_173 rfl ⟨Nat.le_of_ble_eq_true rfl, Nat.le_of_ble_eq_true rfl⟩ ⟨Nat.le_of_ble_eq_true rfl, Nat.le_of_ble_eq_true rfl⟩ (bk.recv hK hX rfl rfl) hl.1 rfl (Nat.le_of_ble_eq_true rfl) dX6_find_68 hX ?_
                refine z_if_ne (tgt := 81) hx hb dX6_find_71 (by decide) (fun c_71 => ?_) (fun c_71 => ?_)
                ·
                  have hrow := of_decide_eq_true c_71
                  refine lv_aload_n hx hb dX6_find_81 rfl (lv_at hl 0 rfl) ?_
                  refine lv_iload_n hx hb dX6_find_82 rfl (lv_at hl 1 rfl) ?_
                  refine lv_iload_n hx hb dX6_find_83 rfl (lv_at hl 2 rfl) ?_
                  refine ctV (rest := []) S hK (c_X6_boardOfRow l G nb o σ μ vw vh hR1 hR2 hr0 (by omega) (by omega) hrow) cw_X6_176 rfl ⟨Nat.le_of_ble_eq_true rfl, Nat.le_of_ble_eq_true rfl⟩ ⟨Nat.le_of_ble_eq_true rfl, Nat.le_of_ble_eq_true rfl⟩ (bk.recv hK hX rfl rfl) hl.1 rfl (Nat.le_of_ble_eq_true rfl) dX6_find_84 ⟨hX, hz⟩ hS (fun q h => by omega) (fun H locs hPost hz2 hk hS => ?_)
                  obtain ⟨hX, hN, hz⟩ := hPost
                  replace hF := hF.over hk (fun q h1 h2 => by have h3 : q < o + 6 + 4 := h2; intro hA1; omega)
                  replace hRF := hRF.over hk (fun q h1 h2 => by have h3 : q < o + 10 + 1 := h2; intro hA1; omega)
                  obtain ⟨τ, hU, hPD⟩ := hN
                  have hBGw := PD_BG hPD (BS_ly (bl := 0) hr0 hrow (by omega) (by omega))
                  refine lv_aload_n hx hb dX6_find_87 rfl (lv_at hl 0 rfl) ?_
                  refine lv_iload_n hx hb dX6_find_88 rfl (lv_at hl 3 rfl) ?_
                  refine lv_aload_n hx hb dX6_find_89 rfl (lv_at hl 0 rfl) ?_
                  refine kg (C := RX6) (T := TX6) (N := 12) (ci := 4) (k := 9) (v := .int (nI (σ.1 9))) S hK rfl inX6 (by decide) q_133 dX6_find_90 hX rfl rfl ?_
                  refine w_top (v' := .int (nI (μ.1 20))) (congrArg (fun z => Value.int (nI z)) hR1) ?_
                  refine crV (rest := [.ref nb]) S hK (c_X6_meaning l G o σ μ vf (μ.1 20) (by omega) (by omega) (hF2 _ hvf)) cw_X6_135 rfl ⟨Nat.le_of_ble_eq_true rfl, Nat.le_of_ble_eq_true rfl⟩ ⟨Nat.le_of_ble_eq_true rfl, Nat.le_of_ble_eq_true rfl⟩ (bk.recv hK hX rfl rfl) hl.1 rfl (Nat.le_of_ble_eq_true rfl) dX6_find_93 hX ?_
                  rcases hfd : fiD μ vw vh vf with _ | b
                  ·
                    refine crS (rest := []) S hK (c_X6_firstThatLets_n l G nb τ μ vw vh vf hr0 hrow (by omega) (by omega) (by omega) hBGw hfd) cw_X6_180 rfl ⟨Nat.le_of_ble_eq_true rfl, Nat.le_of_ble_eq_true rfl⟩ ⟨Nat.le_of_ble_eq_true rfl, Nat.le_of_ble_eq_true rfl⟩ hl.1 rfl (Nat.le_of_ble_eq_true rfl) dX6_find_96 hU ?_
                    refine lv_astoreN (lv' := [(4, .null), (0, .ref o), (1, .int (nI vw)), (2, .int (nI vh)), (3, .int (nI vf))]) hx hb dX6_find_99 hl (by decide) rfl (fun ls hl => ?_)
                    refine lv_aload_n hx hb dX6_find_101 rfl (lv_at hl 1 rfl) ?_
                    refine lv_iconst (v := nI 0) hx hb dX6_find_102 (by decide) ?_
                    refine kp (C := RX6) (T := TX6) (N := 12) (ci := 4) (k := 9) (ty := .int) tyX6 tyX6_ok nmX6 S hK rfl inX6 (by decide) q_133 rfl dX6_find_103 rfl rfl rfl hX rfl (Nat.le_of_ble_eq_true rfl) (L1 := xL G o (uS σ 9 0)) rfl hS (by first | exact ⟨by omega, by omega⟩ | omega) (fun H locs hX hS hz2 hk => ?_)
                    replace hz := hz2.trans hz
                    replace hF := hF.kept (fun q h1 h2 => hk q (by have h3 : q < o + 6 + 4 := h2; omega))
                    replace hRF := hRF.kept (fun q h1 h2 => hk q (by have h3 : q < o + 10 + 1 := h2; omega))
                    replace hU := hU.kept (fun q h1 h2 => hk q (by have h3 : q < nb + 4 := h2; omega))
                    refine lv_aloadN hx hb dX6_find_106 (lv_at hl 0 rfl) ?_
                    refine lv_ifnonnullN hx hb dX6_find_108 ?_
                    refine lv_bipush (v := (-9)) hx hb dX6_find_111 (by decide) ?_
                    refine lv_goto (tgt := 122) hx hb dX6_find_113 (by decide) ?_
                    have hr : find_M μ (nI vw) (nI vh) (nI vf) = ((-9), uS μ 20 0) := by unfold find_M; rw [c5, if_pos (by rfl), if_neg (fun q => q.elim hge1 hge2), hcw, hch, hcf, if_pos ⟨by omega, by omega, by omega, by omega⟩, if_pos hrow]; exact (fiR_n hfd)
                    refine w_top (v' := .int ((find_M μ (nI vw) (nI vh) (nI vf)).1)) (congrArg (fun z => Value.int z) (congrArg Prod.fst hr).symm) ?_
                    have hcw := CW_r (G := G) (o := o) (om := om) hr (CW_x hCW hS (fun q h => by omega) hX hF hRF (⟨⟨hT1, hT2⟩, ⟨hP1, hP2⟩, FX_c ⟨hF1, hF2⟩ rfl rfl rfl rfl rfl, ⟨hN1, hN2⟩, ⟨rfl, hR2⟩, ⟨hL1, hL2, hL3, hL4⟩, hRR⟩) (⟨⟨rfl, rfl⟩, ⟨rfl, rfl, rfl, rfl⟩, rfl, rfl, rfl, rfl, rfl⟩))
                    exact hE _ _ _ _ _ _ (kr_i dX6_find_122) hS (by decide) (by decide) hcw
                  ·
                    refine ctS (rest := []) S hK (c_X6_firstThatLets_s l G (nb + 4) nb τ μ vw vh vf b hr0 hrow (by omega) (by omega) (by omega) hBGw hfd) cw_X6_180 rfl ⟨Nat.le_of_ble_eq_true rfl, Nat.le_of_ble_eq_true rfl⟩ ⟨Nat.le_of_ble_eq_true rfl, Nat.le_of_ble_eq_true rfl⟩ hl.1 rfl (Nat.le_of_ble_eq_true rfl) dX6_find_96 ⟨hU, hz⟩ hS (fun q h => by omega) (fun H locs hPost hz2 hk hS => ?_)
                    obtain ⟨hU, hN⟩ := hPost
                    replace hX := hX.over hk (fun q h1 h2 => by have h3 : q < o + 6 := h2; intro hA1; omega)
                    replace hF := hF.over hk (fun q h1 h2 => by have h3 : q < o + 6 + 4 := h2; intro hA1; omega)
                    replace hRF := hRF.over hk (fun q h1 h2 => by have h3 : q < o + 10 + 1 := h2; intro hA1; omega)
                    obtain ⟨τ2, hV, hPDt⟩ := hN
                    have hBSt := BS_ly (bl := b) hr0 hrow (show vw ≤ 5 by omega) (show vh ≤ 4 by omega)
                    refine lv_astore (lv' := [(4, .ref (nb + 4)), (0, .ref o), (1, .int (nI vw)), (2, .int (nI vh)), (3, .int (nI vf))]) hx hb dX6_find_99 hl (by decide) rfl (fun ls hl => ?_)
                    refine lv_aload_n hx hb dX6_find_101 rfl (lv_at hl 1 rfl) ?_
                    refine lv_iconst (v := nI 0) hx hb dX6_find_102 (by decide) ?_
                    refine kp (C := RX6) (T := TX6) (N := 12) (ci := 4) (k := 9) (ty := .int) tyX6 tyX6_ok nmX6 S hK rfl inX6 (by decide) q_133 rfl dX6_find_103 rfl rfl rfl hX rfl (Nat.le_of_ble_eq_true rfl) (L1 := xL G o (uS σ 9 0)) rfl hS (by first | exact ⟨by omega, by omega⟩ | omega) (fun H locs hX hS hz2 hk => ?_)
                    replace hF := hF.kept (fun q h1 h2 => hk q (by have h3 : q < o + 6 + 4 := h2; omega))
                    replace hRF := hRF.kept (fun q h1 h2 => hk q (by have h3 : q < o + 10 + 1 := h2; omega))
                    replace hU := hU.kept (fun q h1 h2 => hk q (by have h3 : q < nb + 4 := h2; omega))
                    replace hV := hV.kept (fun q h1 h2 => hk q (by have h3 : q < nb + 4 + 4 := h2; omega))
                    refine lv_aload hx hb dX6_find_106 (lv_at hl 0 rfl) ?_
                    refine lv_ifnonnull (tgt := 116) hx hb dX6_find_108 (by decide) ?_
                    refine lv_aload_n hx hb dX6_find_116 rfl (lv_at hl 1 rfl) ?_
                    refine lv_aload hx hb dX6_find_117 (lv_at hl 0 rfl) ?_
                    refine ctV (v := .int (nI (σ.1 3))) (rest := []) S hK (c_X6_keep_y l G o (uS σ 9 0) (nb + 4) τ2 vw vh (μ.1 20) (lyC μ vw vh b) (show σ.1 3 < 24 by omega) (by omega) hBSt hPDt) cw_X6_63 rfl ⟨Nat.le_of_ble_eq_true rfl, Nat.le_of_ble_eq_true rfl⟩ ⟨Nat.le_of_ble_eq_true rfl, Nat.le_of_ble_eq_true rfl⟩ (bk.recv hK hX rfl rfl) hl.1 rfl (Nat.le_of_ble_eq_true rfl) dX6_find_119 ⟨hX, hV⟩ hS (fun q h => by omega) (fun H locs hPost hz hk hS => ?_)
                    obtain ⟨hX, ⟨τ2, hV, hq2⟩⟩ := hPost
                    replace hF := hF.over hk (fun q h1 h2 => by have h3 : q < o + 6 + 4 := h2; intro hA1; omega)
                    replace hRF := hRF.over hk (fun q h1 h2 => by have h3 : q < o + 10 + 1 := h2; intro hA1; omega)
                    replace hU := hU.over hk (fun q h1 h2 => by have h3 : q < nb + 4 := h2; intro hA1; omega)
                    have hr : find_M μ (nI vw) (nI vh) (nI vf) = ((nI (σ.1 3)), nwP (uS μ 20 0) vw vh (μ.1 20) (lyC μ vw vh b)) := by unfold find_M; rw [c5, if_pos (by rfl), if_neg (fun q => q.elim hge1 hge2), hcw, hch, hcf, if_pos ⟨by omega, by omega, by omega, by omega⟩, if_pos hrow]; exact ((fiR_s hfd).trans (by rw [hP1]))
                    refine w_top (v' := .int ((find_M μ (nI vw) (nI vh) (nI vf)).1)) (congrArg (fun z => Value.int z) (congrArg Prod.fst hr).symm) ?_
                    have hcw := CW_r (G := G) (o := o) (om := om) hr (CW_p hCW hn0 hS (fun q h => by omega) hX hF hRF (RX_p (μ := uS μ 20 0) (σ := uS σ 9 0) ⟨⟨hT1, hT2⟩, ⟨hP1, hP2⟩, FX_c ⟨hF1, hF2⟩ rfl rfl rfl rfl rfl, ⟨hN1, hN2⟩, ⟨rfl, hR2⟩, ⟨hL1, hL2, hL3, hL4⟩, hRR⟩ (fun k hk8 => (hl0.2 k hk8).1)) (show zs.heap.size ≤ nb + 4 by omega) hV hq2.1 hq2.2 (NP_nw _ _ _ _ _))
                    exact hE _ _ _ _ _ _ (kr_i dX6_find_122) hS (by decide) (by decide) hcw
                ·
                  refine lv_aload_n hx hb dX6_find_74 rfl (lv_at hl 0 rfl) ?_
                  refine lv_bipush (v := (-3)) hx hb dX6_find_75 (by decide) ?_
                  refine ctV (rest := []) S hK (c_X6_refuse l G o σ ρ (-3) 3 rfl (by decide)) cw_X6_42 rfl ⟨Nat.le_of_ble_eq_true rfl, Nat.le_of_ble_eq_true rfl⟩ ⟨Nat.le_of_ble_eq_true rfl, Nat.le_of_ble_eq_true rfl⟩ (bk.recv hK hX rfl rfl) hl.1 rfl (Nat.le_of_ble_eq_true rfl) dX6_find_77 ⟨hX, hRF⟩ hS (fun _ h => by first | exact h | omega) (fun H locs hPost hz2 hk hS => ?_)
                  obtain ⟨hX, hRF⟩ := hPost
                  replace hF := hF.over hk (fun q h1 h2 => by have h3 : q < o + 6 + 4 := h2; intro hA1; omega)
                  have hr : find_M μ (nI vw) (nI vh) (nI vf) = ((-3), rfM μ 3) := by unfold find_M; rw [c5, if_pos (by rfl), if_neg (fun q => q.elim hge1 hge2), hcw, hch, if_pos ⟨by omega, by omega, by omega, by omega⟩, if_neg (of_decide_eq_false c_71)]
                  refine w_top (v' := .int ((find_M μ (nI vw) (nI vh) (nI vf)).1)) (congrArg (fun z => Value.int z) (congrArg Prod.fst hr).symm) ?_
                  have hcw := CW_r (G := G) (o := o) (om := om) hr (CW_x hCW hS (fun q h => by omega) hX hF hRF (RX_rf hRX) (KP_rf μ _))
                  exact hE _ _ _ _ _ _ (kr_i dX6_find_80) hS (by decide) (by decide) hcw
              ·
                refine lv_aload_n hx hb dX6_find_58 rfl (lv_at hl 0 rfl) ?_
                refine lv_bipush (v := (-6)) hx hb dX6_find_59 (by decide) ?_
                refine ctV (rest := []) S hK (c_X6_refuse l G o σ ρ (-6) 6 rfl (by decide)) cw_X6_42 rfl ⟨Nat.le_of_ble_eq_true rfl, Nat.le_of_ble_eq_true rfl⟩ ⟨Nat.le_of_ble_eq_true rfl, Nat.le_of_ble_eq_true rfl⟩ (bk.recv hK hX rfl rfl) hl.1 rfl (Nat.le_of_ble_eq_true rfl) dX6_find_61 ⟨hX, hRF⟩ hS (fun _ h => by first | exact h | omega) (fun H locs hPost hz2 hk hS => ?_)
                obtain ⟨hX, hRF⟩ := hPost
                replace hF := hF.over hk (fun q h1 h2 => by have h3 : q < o + 6 + 4 := h2; intro hA1; omega)
                have hr : find_M μ (nI vw) (nI vh) (nI vf) = ((-6), rfM μ 6) := by unfold find_M; rw [c5, if_pos (by rfl), if_neg (fun q => q.elim hge1 hge2), hcw, hch, if_neg (by omega)]
                refine w_top (v' := .int ((find_M μ (nI vw) (nI vh) (nI vf)).1)) (congrArg (fun z => Value.int z) (congrArg Prod.fst hr).symm) ?_
                have hcw := CW_r (G := G) (o := o) (om := om) hr (CW_x hCW hS (fun q h => by omega) hX hF hRF (RX_rf hRX) (KP_rf μ _))
                exact hE _ _ _ _ _ _ (kr_i dX6_find_64) hS (by decide) (by decide) hcw
      ·
        refine lv_aload_n hx hb dX6_find_24 rfl (lv_at hl 0 rfl) ?_
        refine lv_bipush (v := (-4)) hx hb dX6_find_25 (by decide) ?_
        refine ctV (rest := []) S hK (c_X6_refuse l G o σ ρ (-4) 4 rfl (by decide)) cw_X6_42 rfl ⟨Nat.le_of_ble_eq_true rfl, Nat.le_of_ble_eq_true rfl⟩ ⟨Nat.le_of_ble_eq_true rfl, Nat.le_of_ble_eq_true rfl⟩ (bk.recv hK hX rfl rfl) hl.1 rfl (Nat.le_of_ble_eq_true rfl) dX6_find_27 ⟨hX, hRF⟩ hS (fun _ h => by first | exact h | omega) (fun H locs hPost hz2 hk hS => ?_)
        obtain ⟨hX, hRF⟩ := hPost
        replace hF := hF.over hk (fun q h1 h2 => by have h3 : q < o + 6 + 4 := h2; intro hA1; omega)
        have hr : find_M μ w h (nI vf) = ((-4), rfM μ 4) := by unfold find_M; rw [c5, if_pos (by rfl), if_pos (Or.inr (Int32.not_le.mp c_21))]
        refine w_top (v' := .int ((find_M μ w h (nI vf)).1)) (congrArg (fun z => Value.int z) (congrArg Prod.fst hr).symm) ?_
        have hcw := CW_r (G := G) (o := o) (om := om) hr (CW_x hCW hS (fun q h => by omega) hX hF hRF (RX_rf hRX) (KP_rf μ _))
        exact hE _ _ _ _ _ _ (kr_i dX6_find_30) hS (by decide) (by decide) hcw
  ·
    rw [hF1] at c_5
    refine lv_aload_n hx hb dX6_find_8 rfl (lv_at hl 0 rfl) ?_
    refine lv_iconst (v := (-1)) hx hb dX6_find_9 (by decide) ?_
    refine ctV (rest := []) S hK (c_X6_refuse l G o σ ρ (-1) 1 rfl (by decide)) cw_X6_42 rfl ⟨Nat.le_of_ble_eq_true rfl, Nat.le_of_ble_eq_true rfl⟩ ⟨Nat.le_of_ble_eq_true rfl, Nat.le_of_ble_eq_true rfl⟩ (bk.recv hK hX rfl rfl) hl.1 rfl (Nat.le_of_ble_eq_true rfl) dX6_find_10 ⟨hX, hRF⟩ hS (fun _ h => by first | exact h | omega) (fun H locs hPost hz2 hk hS => ?_)
    obtain ⟨hX, hRF⟩ := hPost
    replace hF := hF.over hk (fun q h1 h2 => by have h3 : q < o + 6 + 4 := h2; intro hA1; omega)
    have hr : find_M μ w h f = ((-1), rfM μ 1) := by unfold find_M; rw [c_5] <;> rfl
    refine w_top (v' := .int ((find_M μ w h f).1)) (congrArg (fun z => Value.int z) (congrArg Prod.fst hr).symm) ?_
    have hcw := CW_r (G := G) (o := o) (om := om) hr (CW_x hCW hS (fun q h => by omega) hX hF hRF (RX_rf hRX) (KP_rf μ _))
    exact hE _ _ _ _ _ _ (kr_i dX6_find_13) hS (by decide) (by decide) hcw
