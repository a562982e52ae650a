
/-! walks: what the class's NETS let -/

set_option maxHeartbeats 1000000 in
set_option maxRecDepth 100000 in
theorem c_X6_netLets (l : Launch) (G : Gt) (o : Nat) (om : Nat) (μ : Sx) (pa : Nat → Nat) (na : Nat → Nat) (n : Int32) (st : Int32) (hb0 : MIb μ) (hn0 : MIn μ) (hif : MIf μ) (hit : MIt μ) (hl0 : MIl μ) (hr0 : MIr μ) (hQA : QA μ) : Ct l G yX6_netLets cX6_netLets 5 ((some .int)) 14 0 0 [.ref o, .int n, .int st] (fun H => CWx G o om μ pa na H) (some (.int ((netLets_M μ n st).1))) (fun H => CW G o om (netLets_M μ n st).2 H) (fun q => (o ≤ q ∧ q < o + 11) ∨ (inI n (μ.1 18) = true ∧ na (cx n) ≤ q ∧ q < na (cx n) + 4)) := by
  refine ct_entry [(0, .ref o), (1, .int n), (2, .int st)] (by decide) (Nat.le_of_ble_eq_true rfl) rfl ?_
  intro zp ze zs zm za zb zt zc Q S hK hPre hin hE ls hl
  have hx := S.1
  have hb := S.2.1
  have hCW := hPre
  have hS : va_S (fun q => (o ≤ q ∧ q < o + 11) ∨ (inI n (μ.1 18) = true ∧ na (cx n) ≤ q ∧ q < na (cx n) + 4)) zs.heap zs.heap [] := va_S.rf
  obtain ⟨⟨hoo, hosz, hLH⟩, σ, φ, ρ, hX, hF, hRF, hRX, hWB, hWN, hAP⟩ := id hCW
  obtain ⟨⟨hT1, hT2⟩, ⟨hP1, hP2⟩, ⟨hF1, hF2⟩, ⟨hN1, hN2⟩, ⟨hR1, hR2⟩, ⟨hL1, hL2, hL3, hL4⟩, hRR⟩ := id hRX
  obtain ⟨h16, -⟩ := id hb0
  obtain ⟨h18, -⟩ := id hn0
  obtain ⟨h17, -⟩ := id hif
  obtain ⟨h22, -⟩ := id hit
  obtain ⟨h19, -⟩ := id hl0
  obtain ⟨h20, -⟩ := id hr0
  refine lv_aload_n hx hb dX6_netLets_0 rfl (lv_at hl 0 rfl) ?_
  refine lv_iload_n hx hb dX6_netLets_1 rfl (lv_at hl 1 rfl) ?_
  refine lv_iload_n hx hb dX6_netLets_2 rfl (lv_at hl 2 rfl) ?_
  rcases net4 μ n st with hnn | ⟨vn, hvn, rfl, hnn, hc | ⟨hc, hst⟩ | ⟨hc, vs, hvs, rfl, hst⟩⟩
  ·
    refine crV (rest := []) S hK (c_X6_refusalOfNetState_n l G o σ n st (by omega) (by rw [hN1]; exact hnn)) cw_X6_217 rfl ⟨Nat.le_of_ble_eq_true rfl, Nat.le_of_ble_eq_true rfl⟩ ⟨Nat.le_of_ble_eq_true rfl, Nat.le_of_ble_eq_true rfl⟩ (bk.recv hK hX rfl rfl) hl.1 rfl (Nat.le_of_ble_eq_true rfl) dX6_netLets_3 hX ?_
    refine lv_istore_n (lv' := [(3, .int (-1)), (0, .ref o), (1, .int n), (2, .int st)]) hx hb dX6_netLets_6 rfl hl (by decide) rfl (fun ls hl => ?_)
    refine lv_aload_n hx hb dX6_netLets_7 rfl (lv_at hl 1 rfl) ?_
    refine lv_iload_n hx hb dX6_netLets_8 rfl (lv_at hl 2 rfl) ?_
    refine crV (rest := []) S hK (c_X6_netAt_n l G o σ n (by omega) (by rw [hN1]; exact hnn)) cw_X6_189 rfl ⟨Nat.le_of_ble_eq_true rfl, Nat.le_of_ble_eq_true rfl⟩ ⟨Nat.le_of_ble_eq_true rfl, Nat.le_of_ble_eq_true rfl⟩ (bk.recv hK hX rfl rfl) hl.1 rfl (Nat.le_of_ble_eq_true rfl) dX6_netLets_9 hX ?_
    refine lv_astoreN (lv' := [(4, .null), (3, .int (-1)), (0, .ref o), (1, .int n), (2, .int st)]) hx hb dX6_netLets_12 hl (by decide) rfl (fun ls hl => ?_)
    refine lv_iload_n hx hb dX6_netLets_14 rfl (lv_at hl 1 rfl) ?_
    refine lv_if_ne (tgt := 23) hx hb dX6_netLets_15 (by decide) (fun c_15 => ?_) (fun c_15 => ?_)
    ·
      refine lv_aload_n hx hb dX6_netLets_23 rfl (lv_at hl 2 rfl) ?_
      refine lv_iload_n hx hb dX6_netLets_24 rfl (lv_at hl 1 rfl) ?_
      refine ctV (rest := []) S hK (c_X6_refuse l G o σ ρ (-1) 1 rfl (by decide)) cw_X6_42 rfl ⟨Nat.le_of_ble_eq_true rfl, Nat.le_of_ble_eq_true rfl⟩ ⟨Nat.le_of_ble_eq_true rfl, Nat.le_of_ble_eq_true rfl⟩ (bk.recv hK hX rfl rfl) hl.1 rfl (Nat.le_of_ble_eq_true rfl) dX6_netLets_25 ⟨hX, hRF⟩ hS (fun q h => Or.inl (by omega)) (fun H locs hPost hz hk hS => ?_)
      obtain ⟨hX, hRF⟩ := hPost
      replace hF := hF.over hk (fun q h1 h2 => by have h3 : q < o + 6 + 4 := h2; intro hA1; omega)
      have hr : netLets_M μ n st = ((-1), rfM μ 1) := by unfold netLets_M; rw [hnn] <;> rfl
      refine w_top (v' := .int ((netLets_M μ n st).1)) (congrArg (fun z => Value.int z) (congrArg Prod.fst hr).symm) ?_
      have hcw := CW_r (G := G) (o := o) (om := om) hr (CW_x hCW hS (fun q h => Or.inl (h.elim id (fun z => absurd (hnn.symm.trans z.1) (by decide)))) hX hF hRF (RX_rf hRX) (KP_rf μ _))
      exact hE _ _ _ _ _ _ (kr_i dX6_netLets_28) hS (by decide) (by decide) hcw
    ·
      exact absurd c_15 (by decide)
  ·
    have hcxn := cx_n (j := vn) (by omega)
    obtain ⟨hna, ν, hN, hNR⟩ := hWN vn hvn
    obtain ⟨hm1, hm2, hm3, hm4⟩ := id (hn0.2 vn hvn)
    obtain ⟨hnr1, hnr2, hnr3, hnr4⟩ := id hNR
    have h12 := NR_12 hNR hm2
    have hltN := bk.lt (k := 3) hN (show 3 < 4 by decide)
    have hAw : ∀ q, ((o ≤ q ∧ q < o + 11) ∨ (inI (nI vn) (μ.1 18) = true ∧ na (cx (nI vn)) ≤ q ∧ q < na (cx (nI vn)) + 4)) → (o ≤ q ∧ q < o + 11) ∨ (na vn ≤ q ∧ q < na vn + 4) := fun q h => by
      rw [hcxn] at h
      exact h.imp id And.right
    have hAn : ∀ q, (na vn ≤ q ∧ q < na vn + 4) → ((o ≤ q ∧ q < o + 11) ∨ (inI (nI vn) (μ.1 18) = true ∧ na (cx (nI vn)) ≤ q ∧ q < na (cx (nI vn)) + 4)) := fun q h => Or.inr ⟨hnn, by rw [hcxn]; exact h⟩
    have hfK := fcK_M hNR hb0 hn0 hvn
    have hf40 := fcM_le (mn1 (mi0 hb0) hn0 hvn)
    have hsh9 : ¬ 10 < fcM μ vn → 1 <<< fcM μ vn ≤ 2 ^ 10 := fun q => shl_le (by omega)
    refine crV (rest := []) S hK (c_X6_refusalOfNetState_3 l G o σ (na vn) ν (fM μ vn) (wyM μ vn) vn st (by omega) (by omega) (hN2 _ hvn) (by omega) h12 (by rw [hfK]; exact hc) (by omega)) cw_X6_217 rfl ⟨Nat.le_of_ble_eq_true rfl, Nat.le_of_ble_eq_true rfl⟩ ⟨Nat.le_of_ble_eq_true rfl, Nat.le_of_ble_eq_true rfl⟩ (bk.recv hK hX rfl rfl) hl.1 rfl (Nat.le_of_ble_eq_true rfl) dX6_netLets_3 ⟨hX, hN, (NB_w hCW hb0 hn0 hvn hNR hS hAw)⟩ ?_
    refine lv_istore_n (lv' := [(3, .int (-3)), (0, .ref o), (1, .int (nI vn)), (2, .int st)]) hx hb dX6_netLets_6 rfl hl (by decide) rfl (fun ls hl => ?_)
    refine lv_aload_n hx hb dX6_netLets_7 rfl (lv_at hl 1 rfl) ?_
    refine lv_iload_n hx hb dX6_netLets_8 rfl (lv_at hl 2 rfl) ?_
    refine crV (rest := []) S hK (c_X6_netAt_y l G o σ vn (na vn) (by omega) (by omega) (hN2 _ hvn)) cw_X6_189 rfl ⟨Nat.le_of_ble_eq_true rfl, Nat.le_of_ble_eq_true rfl⟩ ⟨Nat.le_of_ble_eq_true rfl, Nat.le_of_ble_eq_true rfl⟩ (bk.recv hK hX rfl rfl) hl.1 rfl (Nat.le_of_ble_eq_true rfl) dX6_netLets_9 hX ?_
    refine lv_astore (lv' := [(4, .ref (na vn)), (3, .int (-3)), (0, .ref o), (1, .int (nI vn)), (2, .int st)]) hx hb dX6_netLets_12 hl (by decide) rfl (fun ls hl => ?_)
    refine lv_iload_n hx hb dX6_netLets_14 rfl (lv_at hl 1 rfl) ?_
    refine lv_if_ne (tgt := 23) hx hb dX6_netLets_15 (by decide) (fun c_15 => ?_) (fun c_15 => ?_)
    ·
      refine lv_aload_n hx hb dX6_netLets_23 rfl (lv_at hl 2 rfl) ?_
      refine lv_iload_n hx hb dX6_netLets_24 rfl (lv_at hl 1 rfl) ?_
      refine ctV (rest := []) S hK (c_X6_refuse l G o σ ρ (-3) 3 rfl (by decide)) cw_X6_42 rfl ⟨Nat.le_of_ble_eq_true rfl, Nat.le_of_ble_eq_true rfl⟩ ⟨Nat.le_of_ble_eq_true rfl, Nat.le_of_ble_eq_true rfl⟩ (bk.recv hK hX rfl rfl) hl.1 rfl (Nat.le_of_ble_eq_true rfl) dX6_netLets_25 ⟨hX, hRF⟩ hS (fun q h => Or.inl (by omega)) (fun H locs hPost hz hk hS => ?_)
      obtain ⟨hX, hRF⟩ := hPost
      replace hF := hF.over hk (fun q h1 h2 => by have h3 : q < o + 6 + 4 := h2; intro hA1; omega)
      replace hN := hN.over hk (fun q h1 h2 => by have h3 : q < na vn + 4 := h2; intro hA1; omega)
      have hr : netLets_M μ (nI vn) st = ((-3), rfM μ 3) := by unfold netLets_M; rw [hnn, hcxn, if_pos (show true = true from rfl), if_pos hc]
      refine w_top (v' := .int ((netLets_M μ (nI vn) st).1)) (congrArg (fun z => Value.int z) (congrArg Prod.fst hr).symm) ?_
      have hcw := CW_r (G := G) (o := o) (om := om) hr (CW_m hCW hn0 hS hAw hX hF hRF (RX_rf hRX) hvn rfl hN hNR (NE_k (KP_rf μ _) vn))
      exact hE _ _ _ _ _ _ (kr_i dX6_netLets_28) hS (by decide) (by decide) hcw
    ·
      exact absurd c_15 (by decide)
  ·
    have hcxn := cx_n (j := vn) (by omega)
    obtain ⟨hna, ν, hN, hNR⟩ := hWN vn hvn
    obtain ⟨hm1, hm2, hm3, hm4⟩ := id (hn0.2 vn hvn)
    obtain ⟨hnr1, hnr2, hnr3, hnr4⟩ := id hNR
    have h12 := NR_12 hNR hm2
    have hltN := bk.lt (k := 3) hN (show 3 < 4 by decide)
    have hAw : ∀ q, ((o ≤ q ∧ q < o + 11) ∨ (inI (nI vn) (μ.1 18) = true ∧ na (cx (nI vn)) ≤ q ∧ q < na (cx (nI vn)) + 4)) → (o ≤ q ∧ q < o + 11) ∨ (na vn ≤ q ∧ q < na vn + 4) := fun q h => by
      rw [hcxn] at h
      exact h.imp id And.right
    have hAn : ∀ q, (na vn ≤ q ∧ q < na vn + 4) → ((o ≤ q ∧ q < o + 11) ∨ (inI (nI vn) (μ.1 18) = true ∧ na (cx (nI vn)) ≤ q ∧ q < na (cx (nI vn)) + 4)) := fun q h => Or.inr ⟨hnn, by rw [hcxn]; exact h⟩
    have hfK := fcK_M hNR hb0 hn0 hvn
    have hf40 := fcM_le (mn1 (mi0 hb0) hn0 hvn)
    have hsh9 : ¬ 10 < fcM μ vn → 1 <<< fcM μ vn ≤ 2 ^ 10 := fun q => shl_le (by omega)
    refine crV (rest := []) S hK (c_X6_refusalOfNetState_1 l G o σ (na vn) ν (fM μ vn) (wyM μ vn) vn st (by omega) (by omega) (hN2 _ hvn) (by omega) h12 (by rw [hfK]; exact hc) (by rw [hfK]; exact hst)) cw_X6_217 rfl ⟨Nat.le_of_ble_eq_true rfl, Nat.le_of_ble_eq_true rfl⟩ ⟨Nat.le_of_ble_eq_true rfl, Nat.le_of_ble_eq_true rfl⟩ (bk.recv hK hX rfl rfl) hl.1 rfl (Nat.le_of_ble_eq_true rfl) dX6_netLets_3 ⟨hX, hN, (NB_w hCW hb0 hn0 hvn hNR hS hAw)⟩ ?_
    refine lv_istore_n (lv' := [(3, .int (-1)), (0, .ref o), (1, .int (nI vn)), (2, .int st)]) hx hb dX6_netLets_6 rfl hl (by decide) rfl (fun ls hl => ?_)
    refine lv_aload_n hx hb dX6_netLets_7 rfl (lv_at hl 1 rfl) ?_
    refine lv_iload_n hx hb dX6_netLets_8 rfl (lv_at hl 2 rfl) ?_
    refine crV (rest := []) S hK (c_X6_netAt_y l G o σ vn (na vn) (by omega) (by omega) (hN2 _ hvn)) cw_X6_189 rfl ⟨Nat.le_of_ble_eq_true rfl, Nat.le_of_ble_eq_true rfl⟩ ⟨Nat.le_of_ble_eq_true rfl, Nat.le_of_ble_eq_true rfl⟩ (bk.recv hK hX rfl rfl) hl.1 rfl (Nat.le_of_ble_eq_true rfl) dX6_netLets_9 hX ?_
    refine lv_astore (lv' := [(4, .ref (na vn)), (3, .int (-1)), (0, .ref o), (1, .int (nI vn)), (2, .int st)]) hx hb dX6_netLets_12 hl (by decide) rfl (fun ls hl => ?_)
    refine lv_iload_n hx hb dX6_netLets_14 rfl (lv_at hl 1 rfl) ?_
    refine lv_if_ne (tgt := 23) hx hb dX6_netLets_15 (by decide) (fun c_15 => ?_) (fun c_15 => ?_)
    ·
      refine lv_aload_n hx hb dX6_netLets_23 rfl (lv_at hl 2 rfl) ?_
      refine lv_iload_n hx hb dX6_netLets_24 rfl (lv_at hl 1 rfl) ?_
      refine ctV (rest := []) S hK (c_X6_refuse l G o σ ρ (-1) 1 rfl (by decide)) cw_X6_42 rfl ⟨Nat.le_of_ble_eq_true rfl, Nat.le_of_ble_eq_true rfl⟩ ⟨Nat.le_of_ble_eq_true rfl, Nat.le_of_ble_eq_true rfl⟩ (bk.recv hK hX rfl rfl) hl.1 rfl (Nat.le_of_ble_eq_true rfl) dX6_netLets_25 ⟨hX, hRF⟩ hS (fun q h => Or.inl (by omega)) (fun H locs hPost hz hk hS => ?_)
      obtain ⟨hX, hRF⟩ := hPost
      replace hF := hF.over hk (fun q h1 h2 => by have h3 : q < o + 6 + 4 := h2; intro hA1; omega)
      replace hN := hN.over hk (fun q h1 h2 => by have h3 : q < na vn + 4 := h2; intro hA1; omega)
      have hr : netLets_M μ (nI vn) st = ((-1), rfM μ 1) := by unfold netLets_M; rw [hnn, hcxn, if_pos (show true = true from rfl), if_neg hc, hst] <;> rfl
      refine w_top (v' := .int ((netLets_M μ (nI vn) st).1)) (congrArg (fun z => Value.int z) (congrArg Prod.fst hr).symm) ?_
      have hcw := CW_r (G := G) (o := o) (om := om) hr (CW_m hCW hn0 hS hAw hX hF hRF (RX_rf hRX) hvn rfl hN hNR (NE_k (KP_rf μ _) vn))
      exact hE _ _ _ _ _ _ (kr_i dX6_netLets_28) hS (by decide) (by decide) hcw
    ·
      exact absurd c_15 (by decide)
  ·
    have hcxn := cx_n (j := vn) (by omega)
    obtain ⟨hna, ν, hN, hNR⟩ := hWN vn hvn
    obtain ⟨hm1, hm2, hm3, hm4⟩ := id (hn0.2 vn hvn)
    obtain ⟨hnr1, hnr2, hnr3, hnr4⟩ := id hNR
    have h12 := NR_12 hNR hm2
    have hltN := bk.lt (k := 3) hN (show 3 < 4 by decide)
    have hAw : ∀ q, ((o ≤ q ∧ q < o + 11) ∨ (inI (nI vn) (μ.1 18) = true ∧ na (cx (nI vn)) ≤ q ∧ q < na (cx (nI vn)) + 4)) → (o ≤ q ∧ q < o + 11) ∨ (na vn ≤ q ∧ q < na vn + 4) := fun q h => by
      rw [hcxn] at h
      exact h.imp id And.right
    have hAn : ∀ q, (na vn ≤ q ∧ q < na vn + 4) → ((o ≤ q ∧ q < o + 11) ∨ (inI (nI vn) (μ.1 18) = true ∧ na (cx (nI vn)) ≤ q ∧ q < na (cx (nI vn)) + 4)) := fun q h => Or.inr ⟨hnn, by rw [hcxn]; exact h⟩
    have hfK := fcK_M hNR hb0 hn0 hvn
    have hf40 := fcM_le (mn1 (mi0 hb0) hn0 hvn)
    have hsh9 : ¬ 10 < fcM μ vn → 1 <<< fcM μ vn ≤ 2 ^ 10 := fun q => shl_le (by omega)
    refine crV (rest := []) S hK (c_X6_refusalOfNetState_0 l G o σ (na vn) ν (fM μ vn) (wyM μ vn) vn (nI vs) (by omega) (by omega) (hN2 _ hvn) (by omega) h12 (by rw [hfK]; exact hc) (by rw [hfK]; exact hst)) cw_X6_217 rfl ⟨Nat.le_of_ble_eq_true rfl, Nat.le_of_ble_eq_true rfl⟩ ⟨Nat.le_of_ble_eq_true rfl, Nat.le_of_ble_eq_true rfl⟩ (bk.recv hK hX rfl rfl) hl.1 rfl (Nat.le_of_ble_eq_true rfl) dX6_netLets_3 ⟨hX, hN, (NB_w hCW hb0 hn0 hvn hNR hS hAw)⟩ ?_
    refine lv_istore_n (lv' := [(3, .int (nI 0)), (0, .ref o), (1, .int (nI vn)), (2, .int (nI vs))]) hx hb dX6_netLets_6 rfl hl (by decide) rfl (fun ls hl => ?_)
    refine lv_aload_n hx hb dX6_netLets_7 rfl (lv_at hl 1 rfl) ?_
    refine lv_iload_n hx hb dX6_netLets_8 rfl (lv_at hl 2 rfl) ?_
    refine crV (rest := []) S hK (c_X6_netAt_y l G o σ vn (na vn) (by omega) (by omega) (hN2 _ hvn)) cw_X6_189 rfl ⟨Nat.le_of_ble_eq_true rfl, Nat.le_of_ble_eq_true rfl⟩ ⟨Nat.le_of_ble_eq_true rfl, Nat.le_of_ble_eq_true rfl⟩ (bk.recv hK hX rfl rfl) hl.1 rfl (Nat.le_of_ble_eq_true rfl) dX6_netLets_9 hX ?_
    refine lv_astore (lv' := [(4, .ref (na vn)), (3, .int (nI 0)), (0, .ref o), (1, .int (nI vn)), (2, .int (nI vs))]) hx hb dX6_netLets_12 hl (by decide) rfl (fun ls hl => ?_)
    refine lv_iload_n hx hb dX6_netLets_14 rfl (lv_at hl 1 rfl) ?_
    refine n_if_ne (tgt := 23) hx hb dX6_netLets_15 (by decide) (by decide) (fun c_15 => ?_) (fun c_15 => ?_)
    ·
      exact absurd c_15 (by decide)
    ·
      refine lv_aload hx hb dX6_netLets_18 (lv_at hl 0 rfl) ?_
      refine lv_ifnonnull (tgt := 29) hx hb dX6_netLets_20 (by decide) ?_
      refine lv_aload hx hb dX6_netLets_29 (lv_at hl 0 rfl) ?_
      refine lv_iload_n hx hb dX6_netLets_31 rfl (lv_at hl 4 rfl) ?_
      have hsv := hsh9 hc
      refine ctV (rest := []) S hK (c_X4_letsState l G (na vn) ν (fM μ vn) (wyM μ vn) vs (by omega) h12 (by omega) (by omega)) cw_X6_220 rfl ⟨Nat.le_of_ble_eq_true rfl, Nat.le_of_ble_eq_true rfl⟩ ⟨Nat.le_of_ble_eq_true rfl, Nat.le_of_ble_eq_true rfl⟩ (bk.recv hK hN rfl rfl) hl.1 rfl (Nat.le_of_ble_eq_true rfl) dX6_netLets_32 ⟨hN, (NB_w hCW hb0 hn0 hvn hNR hS hAw)⟩ hS (fun q h => hAn q h) (fun H locs hPost hz hk hS => ?_)
      obtain ⟨g, hN, hg⟩ := hPost
      replace hX := hX.over hk (fun q h1 h2 => by have h3 : q < o + 6 := h2; intro hA1; omega)
      replace hF := hF.over hk (fun q h1 h2 => by have h3 : q < o + 6 + 4 := h2; intro hA1; omega)
      replace hRF := hRF.over hk (fun q h1 h2 => by have h3 : q < o + 10 + 1 := h2; intro hA1; omega)
      refine z_if_eq (tgt := 42) hx hb dX6_netLets_35 (by decide) (fun c_35 => ?_) (fun c_35 => ?_)
      ·
        refine lv_iconst (v := nI 0) hx hb dX6_netLets_42 (by decide) ?_
        have hr : netLets_M μ (nI vn) (nI vs) = ((nI 0), μ) := by unfold netLets_M; rw [hnn, hcxn, if_pos (show true = true from rfl), if_neg hc, hst, if_pos (show true = true from rfl), cx_n (j := vs) (by omega), ← sfK_A hQA hNR hb0 hn0 hvn hc hvs, c_35] <;> rfl
        refine w_top (v' := .int ((netLets_M μ (nI vn) (nI vs)).1)) (congrArg (fun z => Value.int z) (congrArg Prod.fst hr).symm) ?_
        have hcw := CW_r (G := G) (o := o) (om := om) hr (CW_m hCW hn0 hS hAw hX hF hRF hRX hvn rfl hN (NR_4 hNR g) (NE_k (KP_r μ) vn))
        exact hE _ _ _ _ _ _ (kr_i dX6_netLets_43) hS (by decide) (by decide) hcw
      ·
        refine lv_iconst (v := nI 1) hx hb dX6_netLets_38 (by decide) ?_
        refine lv_goto (tgt := 43) hx hb dX6_netLets_39 (by decide) ?_
        have hr : netLets_M μ (nI vn) (nI vs) = ((nI 1), μ) := by unfold netLets_M; rw [hnn, hcxn, if_pos (show true = true from rfl), if_neg hc, hst, if_pos (show true = true from rfl), cx_n (j := vs) (by omega), ← sfK_A hQA hNR hb0 hn0 hvn hc hvs, c_35] <;> rfl
        refine w_top (v' := .int ((netLets_M μ (nI vn) (nI vs)).1)) (congrArg (fun z => Value.int z) (congrArg Prod.fst hr).symm) ?_
        have hcw := CW_r (G := G) (o := o) (om := om) hr (CW_m hCW hn0 hS hAw hX hF hRF hRX hvn rfl hN (NR_4 hNR g) (NE_k (KP_r μ) vn))
        exact hE _ _ _ _ _ _ (kr_i dX6_netLets_43) hS (by decide) (by decide) hcw

set_option maxHeartbeats 1000000 in
set_option maxRecDepth 100000 in
theorem c_X6_howMany (l : Launch) (G : Gt) (o : Nat) (om : Nat) (μ : Sx) (pa : Nat → Nat) (na : Nat → Nat) (n : Int32) (st : Int32) (hb0 : MIb μ) (hn0 : MIn μ) (hif : MIf μ) (hit : MIt μ) (hl0 : MIl μ) (hr0 : MIr μ) (hQH : QH μ) : Ct l G yX6_howMany cX6_howMany 5 ((some .int)) 14 0 0 [.ref o, .int n, .int st] (fun H => CWx G o om μ pa na H) (some (.int ((howMany_M μ n st).1))) (fun H => CW G o om (howMany_M μ n st).2 H) (fun q => (o ≤ q ∧ q < o + 11) ∨ (inI n (μ.1 18) = true ∧ na (cx n) ≤ q ∧ q < na (cx n) + 4)) := by
  refine ct_entry [(0, .ref o), (1, .int n), (2, .int st)] (by decide) (Nat.le_of_ble_eq_true rfl) rfl ?_
  intro zp ze zs zm za zb zt zc Q S hK hPre hin hE ls hl
  have hx := S.1
  have hb := S.2.1
  have hCW := hPre
  have hS : va_S (fun q => (o ≤ q ∧ q < o + 11) ∨ (inI n (μ.1 18) = true ∧ na (cx n) ≤ q ∧ q < na (cx n) + 4)) zs.heap zs.heap [] := va_S.rf
  obtain ⟨⟨hoo, hosz, hLH⟩, σ, φ, ρ, hX, hF, hRF, hRX, hWB, hWN, hAP⟩ := id hCW
  obtain ⟨⟨hT1, hT2⟩, ⟨hP1, hP2⟩, ⟨hF1, hF2⟩, ⟨hN1, hN2⟩, ⟨hR1, hR2⟩, ⟨hL1, hL2, hL3, hL4⟩, hRR⟩ := id hRX
  obtain ⟨h16, -⟩ := id hb0
  obtain ⟨h18, -⟩ := id hn0
  obtain ⟨h17, -⟩ := id hif
  obtain ⟨h22, -⟩ := id hit
  obtain ⟨h19, -⟩ := id hl0
  obtain ⟨h20, -⟩ := id hr0
  refine lv_aload_n hx hb dX6_howMany_0 rfl (lv_at hl 0 rfl) ?_
  refine lv_iload_n hx hb dX6_howMany_1 rfl (lv_at hl 1 rfl) ?_
  refine lv_iload_n hx hb dX6_howMany_2 rfl (lv_at hl 2 rfl) ?_
  rcases net4 μ n st with hnn | ⟨vn, hvn, rfl, hnn, hc | ⟨hc, hst⟩ | ⟨hc, vs, hvs, rfl, hst⟩⟩
  ·
    refine crV (rest := []) S hK (c_X6_refusalOfNetState_n l G o σ n st (by omega) (by rw [hN1]; exact hnn)) cw_X6_217 rfl ⟨Nat.le_of_ble_eq_true rfl, Nat.le_of_ble_eq_true rfl⟩ ⟨Nat.le_of_ble_eq_true rfl, Nat.le_of_ble_eq_true rfl⟩ (bk.recv hK hX rfl rfl) hl.1 rfl (Nat.le_of_ble_eq_true rfl) dX6_howMany_3 hX ?_
    refine lv_istore_n (lv' := [(3, .int (-1)), (0, .ref o), (1, .int n), (2, .int st)]) hx hb dX6_howMany_6 rfl hl (by decide) rfl (fun ls hl => ?_)
    refine lv_aload_n hx hb dX6_howMany_7 rfl (lv_at hl 1 rfl) ?_
    refine lv_iload_n hx hb dX6_howMany_8 rfl (lv_at hl 2 rfl) ?_
    refine crV (rest := []) S hK (c_X6_netAt_n l G o σ n (by omega) (by rw [hN1]; exact hnn)) cw_X6_189 rfl ⟨Nat.le_of_ble_eq_true rfl, Nat.le_of_ble_eq_true rfl⟩ ⟨Nat.le_of_ble_eq_true rfl, Nat.le_of_ble_eq_true rfl⟩ (bk.recv hK hX rfl rfl) hl.1 rfl (Nat.le_of_ble_eq_true rfl) dX6_howMany_9 hX ?_
    refine lv_astoreN (lv' := [(4, .null), (3, .int (-1)), (0, .ref o), (1, .int n), (2, .int st)]) hx hb dX6_howMany_12 hl (by decide) rfl (fun ls hl => ?_)
    refine lv_iload_n hx hb dX6_howMany_14 rfl (lv_at hl 1 rfl) ?_
    refine lv_if_ne (tgt := 23) hx hb dX6_howMany_15 (by decide) (fun c_15 => ?_) (fun c_15 => ?_)
    ·
      refine lv_aload_n hx hb dX6_howMany_23 rfl (lv_at hl 2 rfl) ?_
      refine lv_iload_n hx hb dX6_howMany_24 rfl (lv_at hl 1 rfl) ?_
      refine ctV (rest := []) S hK (c_X6_refuse l G o σ ρ (-1) 1 rfl (by decide)) cw_X6_42 rfl ⟨Nat.le_of_ble_eq_true rfl, Nat.le_of_ble_eq_true rfl⟩ ⟨Nat.le_of_ble_eq_true rfl, Nat.le_of_ble_eq_true rfl⟩ (bk.recv hK hX rfl rfl) hl.1 rfl (Nat.le_of_ble_eq_true rfl) dX6_howMany_25 ⟨hX, hRF⟩ hS (fun q h => Or.inl (by omega)) (fun H locs hPost hz hk hS => ?_)
      obtain ⟨hX, hRF⟩ := hPost
      replace hF := hF.over hk (fun q h1 h2 => by have h3 : q < o + 6 + 4 := h2; intro hA1; omega)
      have hr : howMany_M μ n st = ((-1), rfM μ 1) := by unfold howMany_M; rw [hnn] <;> rfl
      refine w_top (v' := .int ((howMany_M μ n st).1)) (congrArg (fun z => Value.int z) (congrArg Prod.fst hr).symm) ?_
      have hcw := CW_r (G := G) (o := o) (om := om) hr (CW_x hCW hS (fun q h => Or.inl (h.elim id (fun z => absurd (hnn.symm.trans z.1) (by decide)))) hX hF hRF (RX_rf hRX) (KP_rf μ _))
      exact hE _ _ _ _ _ _ (kr_i dX6_howMany_28) hS (by decide) (by decide) hcw
    ·
      exact absurd c_15 (by decide)
  ·
    have hcxn := cx_n (j := vn) (by omega)
    obtain ⟨hna, ν, hN, hNR⟩ := hWN vn hvn
    obtain ⟨hm1, hm2, hm3, hm4⟩ := id (hn0.2 vn hvn)
    obtain ⟨hnr1, hnr2, hnr3, hnr4⟩ := id hNR
    have h12 := NR_12 hNR hm2
    have hltN := bk.lt (k := 3) hN (show 3 < 4 by decide)
    have hAw : ∀ q, ((o ≤ q ∧ q < o + 11) ∨ (inI (nI vn) (μ.1 18) = true ∧ na (cx (nI vn)) ≤ q ∧ q < na (cx (nI vn)) + 4)) → (o ≤ q ∧ q < o + 11) ∨ (na vn ≤ q ∧ q < na vn + 4) := fun q h => by
      rw [hcxn] at h
      exact h.imp id And.right
    have hAn : ∀ q, (na vn ≤ q ∧ q < na vn + 4) → ((o ≤ q ∧ q < o + 11) ∨ (inI (nI vn) (μ.1 18) = true ∧ na (cx (nI vn)) ≤ q ∧ q < na (cx (nI vn)) + 4)) := fun q h => Or.inr ⟨hnn, by rw [hcxn]; exact h⟩
    have hfK := fcK_M hNR hb0 hn0 hvn
    have hf40 := fcM_le (mn1 (mi0 hb0) hn0 hvn)
    have hsh9 : ¬ 10 < fcM μ vn → 1 <<< fcM μ vn ≤ 2 ^ 10 := fun q => shl_le (by omega)
    refine crV (rest := []) S hK (c_X6_refusalOfNetState_3 l G o σ (na vn) ν (fM μ vn) (wyM μ vn) vn st (by omega) (by omega) (hN2 _ hvn) (by omega) h12 (by rw [hfK]; exact hc) (by omega)) cw_X6_217 rfl ⟨Nat.le_of_ble_eq_true rfl, Nat.le_of_ble_eq_true rfl⟩ ⟨Nat.le_of_ble_eq_true rfl, Nat.le_of_ble_eq_true rfl⟩ (bk.recv hK hX rfl rfl) hl.1 rfl (Nat.le_of_ble_eq_true rfl) dX6_howMany_3 ⟨hX, hN, (NB_w hCW hb0 hn0 hvn hNR hS hAw)⟩ ?_
    refine lv_istore_n (lv' := [(3, .int (-3)), (0, .ref o), (1, .int (nI vn)), (2, .int st)]) hx hb dX6_howMany_6 rfl hl (by decide) rfl (fun ls hl => ?_)
    refine lv_aload_n hx hb dX6_howMany_7 rfl (lv_at hl 1 rfl) ?_
    refine lv_iload_n hx hb dX6_howMany_8 rfl (lv_at hl 2 rfl) ?_
    refine crV (rest := []) S hK (c_X6_netAt_y l G o σ vn (na vn) (by omega) (by omega) (hN2 _ hvn)) cw_X6_189 rfl ⟨Nat.le_of_ble_eq_true rfl, Nat.le_of_ble_eq_true rfl⟩ ⟨Nat.le_of_ble_eq_true rfl, Nat.le_of_ble_eq_true rfl⟩ (bk.recv hK hX rfl rfl) hl.1 rfl (Nat.le_of_ble_eq_true rfl) dX6_howMany_9 hX ?_
    refine lv_astore (lv' := [(4, .ref (na vn)), (3, .int (-3)), (0, .ref o), (1, .int (nI vn)), (2, .int st)]) hx hb dX6_howMany_12 hl (by decide) rfl (fun ls hl => ?_)
    refine lv_iload_n hx hb dX6_howMany_14 rfl (lv_at hl 1 rfl) ?_
    refine lv_if_ne (tgt := 23) hx hb dX6_howMany_15 (by decide) (fun c_15 => ?_) (fun c_15 => ?_)
    ·
      refine lv_aload_n hx hb dX6_howMany_23 rfl (lv_at hl 2 rfl) ?_
      refine lv_iload_n hx hb dX6_howMany_24 rfl (lv_at hl 1 rfl) ?_
      refine ctV (rest := []) S hK (c_X6_refuse l G o σ ρ (-3) 3 rfl (by decide)) cw_X6_42 rfl ⟨Nat.le_of_ble_eq_true rfl, Nat.le_of_ble_eq_true rfl⟩ ⟨Nat.le_of_ble_eq_true rfl, Nat.le_of_ble_eq_true rfl⟩ (bk.recv hK hX rfl rfl) hl.1 rfl (Nat.le_of_ble_eq_true rfl) dX6_howMany_25 ⟨hX, hRF⟩ hS (fun q h => Or.inl (by omega)) (fun H locs hPost hz hk hS => ?_)
      obtain ⟨hX, hRF⟩ := hPost
      replace hF := hF.over hk (fun q h1 h2 => by have h3 : q < o + 6 + 4 := h2; intro hA1; omega)
      replace hN := hN.over hk (fun q h1 h2 => by have h3 : q < na vn + 4 := h2; intro hA1; omega)
      have hr : howMany_M μ (nI vn) st = ((-3), rfM μ 3) := by unfold howMany_M; rw [hnn, hcxn, if_pos (show true = true from rfl), if_pos hc]
      refine w_top (v' := .int ((howMany_M μ (nI vn) st).1)) (congrArg (fun z => Value.int z) (congrArg Prod.fst hr).symm) ?_
      have hcw := CW_r (G := G) (o := o) (om := om) hr (CW_m hCW hn0 hS hAw hX hF hRF (RX_rf hRX) hvn rfl hN hNR (NE_k (KP_rf μ _) vn))
      exact hE _ _ _ _ _ _ (kr_i dX6_howMany_28) hS (by decide) (by decide) hcw
    ·
      exact absurd c_15 (by decide)
  ·
    have hcxn := cx_n (j := vn) (by omega)
    obtain ⟨hna, ν, hN, hNR⟩ := hWN vn hvn
    obtain ⟨hm1, hm2, hm3, hm4⟩ := id (hn0.2 vn hvn)
    obtain ⟨hnr1, hnr2, hnr3, hnr4⟩ := id hNR
    have h12 := NR_12 hNR hm2
    have hltN := bk.lt (k := 3) hN (show 3 < 4 by decide)
    have hAw : ∀ q, ((o ≤ q ∧ q < o + 11) ∨ (inI (nI vn) (μ.1 18) = true ∧ na (cx (nI vn)) ≤ q ∧ q < na (cx (nI vn)) + 4)) → (o ≤ q ∧ q < o + 11) ∨ (na vn ≤ q ∧ q < na vn + 4) := fun q h => by
      rw [hcxn] at h
      exact h.imp id And.right
    have hAn : ∀ q, (na vn ≤ q ∧ q < na vn + 4) → ((o ≤ q ∧ q < o + 11) ∨ (inI (nI vn) (μ.1 18) = true ∧ na (cx (nI vn)) ≤ q ∧ q < na (cx (nI vn)) + 4)) := fun q h => Or.inr ⟨hnn, by rw [hcxn]; exact h⟩
    have hfK := fcK_M hNR hb0 hn0 hvn
    have hf40 := fcM_le (mn1 (mi0 hb0) hn0 hvn)
    have hsh9 : ¬ 10 < fcM μ vn → 1 <<< fcM μ vn ≤ 2 ^ 10 := fun q => shl_le (by omega)
    refine crV (rest := []) S hK (c_X6_refusalOfNetState_1 l G o σ (na vn) ν (fM μ vn) (wyM μ vn) vn st (by omega) (by omega) (hN2 _ hvn) (by omega) h12 (by rw [hfK]; exact hc) (by rw [hfK]; exact hst)) cw_X6_217 rfl ⟨Nat.le_of_ble_eq_true rfl, Nat.le_of_ble_eq_true rfl⟩ ⟨Nat.le_of_ble_eq_true rfl, Nat.le_of_ble_eq_true rfl⟩ (bk.recv hK hX rfl rfl) hl.1 rfl (Nat.le_of_ble_eq_true rfl) dX6_howMany_3 ⟨hX, hN, (NB_w hCW hb0 hn0 hvn hNR hS hAw)⟩ ?_
    refine lv_istore_n (lv' := [(3, .int (-1)), (0, .ref o), (1, .int (nI vn)), (2, .int st)]) hx hb dX6_howMany_6 rfl hl (by decide) rfl (fun ls hl => ?_)
    refine lv_aload_n hx hb dX6_howMany_7 rfl (lv_at hl 1 rfl) ?_
    refine lv_iload_n hx hb dX6_howMany_8 rfl (lv_at hl 2 rfl) ?_
    refine crV (rest := []) S hK (c_X6_netAt_y l G o σ vn (na vn) (by omega) (by omega) (hN2 _ hvn)) cw_X6_189 rfl ⟨Nat.le_of_ble_eq_true rfl, Nat.le_of_ble_eq_true rfl⟩ ⟨Nat.le_of_ble_eq_true rfl, Nat.le_of_ble_eq_true rfl⟩ (bk.recv hK hX rfl rfl) hl.1 rfl (Nat.le_of_ble_eq_true rfl) dX6_howMany_9 hX ?_
    refine lv_astore (lv' := [(4, .ref (na vn)), (3, .int (-1)), (0, .ref o), (1, .int (nI vn)), (2, .int st)]) hx hb dX6_howMany_12 hl (by decide) rfl (fun ls hl => ?_)
    refine lv_iload_n hx hb dX6_howMany_14 rfl (lv_at hl 1 rfl) ?_
    refine lv_if_ne (tgt := 23) hx hb dX6_howMany_15 (by decide) (fun c_15 => ?_) (fun c_15 => ?_)
    ·
      refine lv_aload_n hx hb dX6_howMany_23 rfl (lv_at hl 2 rfl) ?_
      refine lv_iload_n hx hb dX6_howMany_24 rfl (lv_at hl 1 rfl) ?_
      refine ctV (rest := []) S hK (c_X6_refuse l G o σ ρ (-1) 1 rfl (by decide)) cw_X6_42 rfl ⟨Nat.le_of_ble_eq_true rfl, Nat.le_of_ble_eq_true rfl⟩ ⟨Nat.le_of_ble_eq_true rfl, Nat.le_of_ble_eq_true rfl⟩ (bk.recv hK hX rfl rfl) hl.1 rfl (Nat.le_of_ble_eq_true rfl) dX6_howMany_25 ⟨hX, hRF⟩ hS (fun q h => Or.inl (by omega)) (fun H locs hPost hz hk hS => ?_)
      obtain ⟨hX, hRF⟩ := hPost
      replace hF := hF.over hk (fun q h1 h2 => by have h3 : q < o + 6 + 4 := h2; intro hA1; omega)
      replace hN := hN.over hk (fun q h1 h2 => by have h3 : q < na vn + 4 := h2; intro hA1; omega)
      have hr : howMany_M μ (nI vn) st = ((-1), rfM μ 1) := by unfold howMany_M; rw [hnn, hcxn, if_pos (show true = true from rfl), if_neg hc, hst] <;> rfl
      refine w_top (v' := .int ((howMany_M μ (nI vn) st).1)) (congrArg (fun z => Value.int z) (congrArg Prod.fst hr).symm) ?_
      have hcw := CW_r (G := G) (o := o) (om := om) hr (CW_m hCW hn0 hS hAw hX hF hRF (RX_rf hRX) hvn rfl hN hNR (NE_k (KP_rf μ _) vn))
      exact hE _ _ _ _ _ _ (kr_i dX6_howMany_28) hS (by decide) (by decide) hcw
    ·
      exact absurd c_15 (by decide)
  ·
    have hcxn := cx_n (j := vn) (by omega)
    obtain ⟨hna, ν, hN, hNR⟩ := hWN vn hvn
    obtain ⟨hm1, hm2, hm3, hm4⟩ := id (hn0.2 vn hvn)
    obtain ⟨hnr1, hnr2, hnr3, hnr4⟩ := id hNR
    have h12 := NR_12 hNR hm2
    have hltN := bk.lt (k := 3) hN (show 3 < 4 by decide)
    have hAw : ∀ q, ((o ≤ q ∧ q < o + 11) ∨ (inI (nI vn) (μ.1 18) = true ∧ na (cx (nI vn)) ≤ q ∧ q < na (cx (nI vn)) + 4)) → (o ≤ q ∧ q < o + 11) ∨ (na vn ≤ q ∧ q < na vn + 4) := fun q h => by
      rw [hcxn] at h
      exact h.imp id And.right
    have hAn : ∀ q, (na vn ≤ q ∧ q < na vn + 4) → ((o ≤ q ∧ q < o + 11) ∨ (inI (nI vn) (μ.1 18) = true ∧ na (cx (nI vn)) ≤ q ∧ q < na (cx (nI vn)) + 4)) := fun q h => Or.inr ⟨hnn, by rw [hcxn]; exact h⟩
    have hfK := fcK_M hNR hb0 hn0 hvn
    have hf40 := fcM_le (mn1 (mi0 hb0) hn0 hvn)
    have hsh9 : ¬ 10 < fcM μ vn → 1 <<< fcM μ vn ≤ 2 ^ 10 := fun q => shl_le (by omega)
    refine crV (rest := []) S hK (c_X6_refusalOfNetState_0 l G o σ (na vn) ν (fM μ vn) (wyM μ vn) vn (nI vs) (by omega) (by omega) (hN2 _ hvn) (by omega) h12 (by rw [hfK]; exact hc) (by rw [hfK]; exact hst)) cw_X6_217 rfl ⟨Nat.le_of_ble_eq_true rfl, Nat.le_of_ble_eq_true rfl⟩ ⟨Nat.le_of_ble_eq_true rfl, Nat.le_of_ble_eq_true rfl⟩ (bk.recv hK hX rfl rfl) hl.1 rfl (Nat.le_of_ble_eq_true rfl) dX6_howMany_3 ⟨hX, hN, (NB_w hCW hb0 hn0 hvn hNR hS hAw)⟩ ?_
    refine lv_istore_n (lv' := [(3, .int (nI 0)), (0, .ref o), (1, .int (nI vn)), (2, .int (nI vs))]) hx hb dX6_howMany_6 rfl hl (by decide) rfl (fun ls hl => ?_)
    refine lv_aload_n hx hb dX6_howMany_7 rfl (lv_at hl 1 rfl) ?_
    refine lv_iload_n hx hb dX6_howMany_8 rfl (lv_at hl 2 rfl) ?_
    refine crV (rest := []) S hK (c_X6_netAt_y l G o σ vn (na vn) (by omega) (by omega) (hN2 _ hvn)) cw_X6_189 rfl ⟨Nat.le_of_ble_eq_true rfl, Nat.le_of_ble_eq_true rfl⟩ ⟨Nat.le_of_ble_eq_true rfl, Nat.le_of_ble_eq_true rfl⟩ (bk.recv hK hX rfl rfl) hl.1 rfl (Nat.le_of_ble_eq_true rfl) dX6_howMany_9 hX ?_
    refine lv_astore (lv' := [(4, .ref (na vn)), (3, .int (nI 0)), (0, .ref o), (1, .int (nI vn)), (2, .int (nI vs))]) hx hb dX6_howMany_12 hl (by decide) rfl (fun ls hl => ?_)
    refine lv_iload_n hx hb dX6_howMany_14 rfl (lv_at hl 1 rfl) ?_
    refine n_if_ne (tgt := 23) hx hb dX6_howMany_15 (by decide) (by decide) (fun c_15 => ?_) (fun c_15 => ?_)
    ·
      exact absurd c_15 (by decide)
    ·
      refine lv_aload hx hb dX6_howMany_18 (lv_at hl 0 rfl) ?_
      refine lv_ifnonnull (tgt := 29) hx hb dX6_howMany_20 (by decide) ?_
      refine lv_aload hx hb dX6_howMany_29 (lv_at hl 0 rfl) ?_
      refine lv_iload_n hx hb dX6_howMany_31 rfl (lv_at hl 4 rfl) ?_
      have hsv := hsh9 hc
      refine ctV (rest := []) S hK (c_X4_waysInState l G (na vn) ν (fM μ vn) (wyM μ vn) vs (by omega) h12 (by omega) (by omega)) cw_X6_223 rfl ⟨Nat.le_of_ble_eq_true rfl, Nat.le_of_ble_eq_true rfl⟩ ⟨Nat.le_of_ble_eq_true rfl, Nat.le_of_ble_eq_true rfl⟩ (bk.recv hK hN rfl rfl) hl.1 rfl (Nat.le_of_ble_eq_true rfl) dX6_howMany_32 ⟨hN, (NB_w hCW hb0 hn0 hvn hNR hS hAw)⟩ hS (fun q h => hAn q h) (fun H locs hPost hz hk hS => ?_)
      obtain ⟨g, hN, hg⟩ := hPost
      replace hX := hX.over hk (fun q h1 h2 => by have h3 : q < o + 6 := h2; intro hA1; omega)
      replace hF := hF.over hk (fun q h1 h2 => by have h3 : q < o + 6 + 4 := h2; intro hA1; omega)
      replace hRF := hRF.over hk (fun q h1 h2 => by have h3 : q < o + 10 + 1 := h2; intro hA1; omega)
      have hr : howMany_M μ (nI vn) (nI vs) = ((nI (sfH (fM μ vn) (wyM μ vn) (slK ν (fM μ vn)) (ν.1 1) 0 (((1 <<< fcN (fM μ vn) (zK ν) (ν.1 1)) - 1) <<< 12) (vs <<< 12))), μ) := by unfold howMany_M; rw [hnn, hcxn, if_pos (show true = true from rfl), if_neg hc, hst, if_pos (show true = true from rfl), cx_n (j := vs) (by omega), ← sfK_H hQH hNR hb0 hn0 hvn hc hvs]
      refine w_top (v' := .int ((howMany_M μ (nI vn) (nI vs)).1)) (congrArg (fun z => Value.int z) (congrArg Prod.fst hr).symm) ?_
      have hcw := CW_r (G := G) (o := o) (om := om) hr (CW_m hCW hn0 hS hAw hX hF hRF hRX hvn rfl hN (NR_4 hNR g) (NE_k (KP_r μ) vn))
      exact hE _ _ _ _ _ _ (kr_i dX6_howMany_35) hS (by decide) (by decide) hcw

set_option maxHeartbeats 1000000 in
set_option maxRecDepth 100000 in
theorem c_X6_netDoes (l : Launch) (G : Gt) (o : Nat) (om : Nat) (μ : Sx) (pa : Nat → Nat) (na : Nat → Nat) (n : Int32) (f : Int32) (hb0 : MIb μ) (hn0 : MIn μ) (hif : MIf μ) (hit : MIt μ) (hl0 : MIl μ) (hr0 : MIr μ) (hQA : QA μ) : Ct l G yX6_netDoes cX6_netDoes 8 ((some .int)) 14 0 0 [.ref o, .int n, .int f] (fun H => CWx G o om μ pa na H) (some (.int ((netDoes_M μ n f).1))) (fun H => CW G o om (netDoes_M μ n f).2 H) (fun q => (o ≤ q ∧ q < o + 11) ∨ (inI n (μ.1 18) = true ∧ na (cx n) ≤ q ∧ q < na (cx n) + 4)) := by
  refine ct_entry [(0, .ref o), (1, .int n), (2, .int f)] (by decide) (Nat.le_of_ble_eq_true rfl) rfl ?_
  intro zp ze zs zm za zb zt zc Q S hK hPre hin hE ls hl
  have hx := S.1
  have hb := S.2.1
  have hCW := hPre
  have hS : va_S (fun q => (o ≤ q ∧ q < o + 11) ∨ (inI n (μ.1 18) = true ∧ na (cx n) ≤ q ∧ q < na (cx n) + 4)) zs.heap zs.heap [] := va_S.rf
  obtain ⟨⟨hoo, hosz, hLH⟩, σ, φ, ρ, hX, hF, hRF, hRX, hWB, hWN, hAP⟩ := id hCW
  obtain ⟨⟨hT1, hT2⟩, ⟨hP1, hP2⟩, ⟨hF1, hF2⟩, ⟨hN1, hN2⟩, ⟨hR1, hR2⟩, ⟨hL1, hL2, hL3, hL4⟩, hRR⟩ := id hRX
  obtain ⟨h16, -⟩ := id hb0
  obtain ⟨h18, -⟩ := id hn0
  obtain ⟨h17, -⟩ := id hif
  obtain ⟨h22, -⟩ := id hit
  obtain ⟨h19, -⟩ := id hl0
  obtain ⟨h20, -⟩ := id hr0
  refine lv_aload_n hx hb dX6_netDoes_0 rfl (lv_at hl 0 rfl) ?_
  refine lv_iload_n hx hb dX6_netDoes_1 rfl (lv_at hl 1 rfl) ?_
  cases hnn : inI n (μ.1 18)
  ·
    refine crV (rest := []) S hK (c_X6_netAt_n l G o σ n (by omega) (by rw [hN1]; exact hnn)) cw_X6_189 rfl ⟨Nat.le_of_ble_eq_true rfl, Nat.le_of_ble_eq_true rfl⟩ ⟨Nat.le_of_ble_eq_true rfl, Nat.le_of_ble_eq_true rfl⟩ (bk.recv hK hX rfl rfl) hl.1 rfl (Nat.le_of_ble_eq_true rfl) dX6_netDoes_2 hX ?_
    refine lv_astore_nN (lv' := [(3, .null), (0, .ref o), (1, .int n), (2, .int f)]) hx hb dX6_netDoes_5 rfl hl (by decide) rfl (fun ls hl => ?_)
    refine lv_aload_nN hx hb dX6_netDoes_6 rfl (lv_at hl 0 rfl) ?_
    refine lv_ifnullN (tgt := 18) hx hb dX6_netDoes_7 (by decide) ?_
    refine lv_aload_n hx hb dX6_netDoes_18 rfl (lv_at hl 1 rfl) ?_
    refine lv_iconst (v := (-1)) hx hb dX6_netDoes_19 (by decide) ?_
    refine ctV (rest := []) S hK (c_X6_refuse l G o σ ρ (-1) 1 rfl (by decide)) cw_X6_42 rfl ⟨Nat.le_of_ble_eq_true rfl, Nat.le_of_ble_eq_true rfl⟩ ⟨Nat.le_of_ble_eq_true rfl, Nat.le_of_ble_eq_true rfl⟩ (bk.recv hK hX rfl rfl) hl.1 rfl (Nat.le_of_ble_eq_true rfl) dX6_netDoes_20 ⟨hX, hRF⟩ hS (fun q h => Or.inl (by omega)) (fun H locs hPost hz hk hS => ?_)
    obtain ⟨hX, hRF⟩ := hPost
    replace hF := hF.over hk (fun q h1 h2 => by have h3 : q < o + 6 + 4 := h2; intro hA1; omega)
    have hr : netDoes_M μ n f = ((-1), rfM μ 1) := by unfold netDoes_M; rw [hnn] <;> rfl
    refine w_top (v' := .int ((netDoes_M μ n f).1)) (congrArg (fun z => Value.int z) (congrArg Prod.fst hr).symm) ?_
    have hcw := CW_r (G := G) (o := o) (om := om) hr (CW_x hCW hS (fun q h => Or.inl (h.elim id (fun z => absurd (hnn.symm.trans z.1) (by decide)))) hX hF hRF (RX_rf hRX) (KP_rf μ _))
    exact hE _ _ _ _ _ _ (kr_i dX6_netDoes_23) hS (by decide) (by decide) hcw
  ·
    obtain ⟨vn, hvn, rfl⟩ := inI_x hnn
    have hcxn := cx_n (j := vn) (by omega)
    obtain ⟨hna, ν, hN, hNR⟩ := hWN vn hvn
    obtain ⟨hm1, hm2, hm3, hm4⟩ := id (hn0.2 vn hvn)
    obtain ⟨hnr1, hnr2, hnr3, hnr4⟩ := id hNR
    have h12 := NR_12 hNR hm2
    have hltN := bk.lt (k := 3) hN (show 3 < 4 by decide)
    have hAw : ∀ q, ((o ≤ q ∧ q < o + 11) ∨ (inI (nI vn) (μ.1 18) = true ∧ na (cx (nI vn)) ≤ q ∧ q < na (cx (nI vn)) + 4)) → (o ≤ q ∧ q < o + 11) ∨ (na vn ≤ q ∧ q < na vn + 4) := fun q h => by
      rw [hcxn] at h
      exact h.imp id And.right
    have hAn : ∀ q, (na vn ≤ q ∧ q < na vn + 4) → ((o ≤ q ∧ q < o + 11) ∨ (inI (nI vn) (μ.1 18) = true ∧ na (cx (nI vn)) ≤ q ∧ q < na (cx (nI vn)) + 4)) := fun q h => Or.inr ⟨hnn, by rw [hcxn]; exact h⟩
    refine crV (rest := []) S hK (c_X6_netAt_y l G o σ vn (na vn) (by omega) (by omega) (hN2 _ hvn)) cw_X6_189 rfl ⟨Nat.le_of_ble_eq_true rfl, Nat.le_of_ble_eq_true rfl⟩ ⟨Nat.le_of_ble_eq_true rfl, Nat.le_of_ble_eq_true rfl⟩ (bk.recv hK hX rfl rfl) hl.1 rfl (Nat.le_of_ble_eq_true rfl) dX6_netDoes_2 hX ?_
    refine lv_astore_n (lv' := [(3, .ref (na vn)), (0, .ref o), (1, .int (nI vn)), (2, .int f)]) hx hb dX6_netDoes_5 rfl hl (by decide) rfl (fun ls hl => ?_)
    refine lv_aload_n hx hb dX6_netDoes_6 rfl (lv_at hl 0 rfl) ?_
    refine lv_ifnull hx hb dX6_netDoes_7 ?_
    refine lv_aload_n hx hb dX6_netDoes_10 rfl (lv_at hl 1 rfl) ?_
    refine lv_iload_n hx hb dX6_netDoes_11 rfl (lv_at hl 3 rfl) ?_
    refine crV (rest := []) S hK (c_X6_isFormula l G o σ f (by omega)) cw_X6_132 rfl ⟨Nat.le_of_ble_eq_true rfl, Nat.le_of_ble_eq_true rfl⟩ ⟨Nat.le_of_ble_eq_true rfl, Nat.le_of_ble_eq_true rfl⟩ (bk.recv hK hX rfl rfl) hl.1 rfl (Nat.le_of_ble_eq_true rfl) dX6_netDoes_12 hX ?_
    refine z_if_ne (tgt := 24) hx hb dX6_netDoes_15 (by decide) (fun c_15 => ?_) (fun c_15 => ?_)
    ·
      rw [hF1] at c_15
      obtain ⟨vf, hvf, rfl⟩ := inI_x c_15
      have hcf := cx_n (j := vf) (by omega)
      refine lv_aload_n hx hb dX6_netDoes_24 rfl (lv_at hl 0 rfl) ?_
      have hfK := fcK_M hNR hb0 hn0 hvn
      have hf40 := fcM_le (mn1 (mi0 hb0) hn0 hvn)
      have hsh9 : ¬ 10 < fcM μ vn → 1 <<< fcM μ vn ≤ 2 ^ 10 := fun q => shl_le (by omega)
      refine crV (rest := []) S hK (c_X4_freeCount l G (na vn) ν (fM μ vn) (wyM μ vn) (by omega) h12) cw_X6_211 rfl ⟨Nat.le_of_ble_eq_true rfl, Nat.le_of_ble_eq_true rfl⟩ ⟨Nat.le_of_ble_eq_true rfl, Nat.le_of_ble_eq_true rfl⟩ (bk.recv hK hN rfl rfl) hl.1 rfl (Nat.le_of_ble_eq_true rfl) dX6_netDoes_25 ⟨hN, (NB_w hCW hb0 hn0 hvn hNR hS hAw)⟩ ?_
      refine w_top (v' := .int (nI (fcM μ vn))) (congrArg (fun z => Value.int (nI z)) hfK) ?_
      refine lv_istore (lv' := [(4, .int (nI (fcM μ vn))), (3, .ref (na vn)), (0, .ref o), (1, .int (nI vn)), (2, .int (nI vf))]) hx hb dX6_netDoes_28 hl (by decide) rfl (fun ls hl => ?_)
      refine lv_iload hx hb dX6_netDoes_30 (lv_at hl 0 rfl) ?_
      refine lv_iconst (v := nI 5) hx hb dX6_netDoes_32 (by decide) ?_
      refine n_icmp_le (tgt := 38) hx hb dX6_netDoes_33 (by decide) (by first | omega | exact bo63 (Nat.le_trans (shl_le (n := 5) (by omega)) (by decide)) | exact Nat.lt_of_le_of_lt Nat.and_le_right (by decide)) (by decide) (fun c_33 => ?_) (fun c_33 => ?_)
      ·
        refine lv_aload_n hx hb dX6_netDoes_38 rfl (lv_at hl 2 rfl) ?_
        refine lv_iload_n hx hb dX6_netDoes_39 rfl (lv_at hl 4 rfl) ?_
        refine lv_iload hx hb dX6_netDoes_40 (lv_at hl 0 rfl) ?_
        refine crV (rest := []) S hK (c_X6_meaning l G o σ μ vf (fcM μ vn) (by omega) (by omega) (hF2 _ hvf)) cw_X6_135 rfl ⟨Nat.le_of_ble_eq_true rfl, Nat.le_of_ble_eq_true rfl⟩ ⟨Nat.le_of_ble_eq_true rfl, Nat.le_of_ble_eq_true rfl⟩ (bk.recv hK hX rfl rfl) hl.1 rfl (Nat.le_of_ble_eq_true rfl) dX6_netDoes_42 hX ?_
        refine lv_lstore (lv' := [(5, .long (lN (bo (trB μ vf) (1 <<< (fcM μ vn))))), (4, .int (nI (fcM μ vn))), (3, .ref (na vn)), (0, .ref o), (1, .int (nI vn)), (2, .int (nI vf))]) hx hb dX6_netDoes_45 hl (by decide) rfl (fun ls hl => ?_)
        refine lv_iconst (v := nI 0) hx hb dX6_netDoes_47 (by decide) ?_
        refine lv_istore (lv' := [(7, .int (nI 0)), (5, .long (lN (bo (trB μ vf) (1 <<< (fcM μ vn))))), (4, .int (nI (fcM μ vn))), (3, .ref (na vn)), (0, .ref o), (1, .int (nI vn)), (2, .int (nI vf))]) hx hb dX6_netDoes_48 hl (by decide) rfl (fun ls hl => ?_)
        have L50 : ∀ (fu : Nat), ∀ (vs : Nat) (ν2 : Sx), (vs ≤ 1 <<< fcM μ vn) → (NR μ pa vn ν2) → (fnd (ndB μ vn vf) (1 <<< fcM μ vn) 0 = fnd (ndB μ vn vf) (1 <<< fcM μ vn - vs) vs) → 1 <<< fcM μ vn - vs < fu → ∀ (H : Heap) (locs : List Loc), bk G o (xL G o σ) H → bk G (o + 6) (flL G (o + 6) φ) H → bk G (o + 10) (rfL G (o + 10) ρ) H → bk G (na vn) (ntL G (na vn) ν2) H → va_S (fun q => (o ≤ q ∧ q < o + 11) ∨ (inI (nI vn) (μ.1 18) = true ∧ na (cx (nI vn)) ≤ q ∧ q < na (cx (nI vn)) + 4)) zs.heap H locs → ∀ ls : Array Slot, lv_has ls 8 [(0, .ref o), (1, .int (nI vn)), (2, .int (nI vf)), (3, .ref (na vn)), (4, .int (nI (fcM μ vn))), (5, .long (lN (bo (trB μ vf) (1 <<< fcM μ vn)))), (7, .int (nI vs))] → W zp l ze (rL 14 0 0) zs zm za zb zt zc H locs 0 0 Q (F0 zm 50 ls []) := by
          intro fu
          induction fu with
          | zero =>
            intro vs ν2 hvs hNR2 hfd hmu H locs hX hF hRF hN hS ls hl
            exact absurd hmu (Nat.not_lt_zero _)
          | succ fu ih50 =>
            intro vs ν2 hvs hNR2 hfd hmu H locs hX hF hRF hN hS ls hl
            have hsh5 := shl_le (n := 5) (f := fcM μ vn) (by omega)
            have h21 := hNR2.1
            have hfK2 := fcK_M hNR2 hb0 hn0 hvn
            refine lv_iload hx hb dX6_netDoes_50 (lv_at hl 6 rfl) ?_
            refine lv_iconst (v := nI 1) hx hb dX6_netDoes_52 (by decide) ?_
            refine lv_iload hx hb dX6_netDoes_53 (lv_at hl 4 rfl) ?_
            refine n_ishl hx hb dX6_netDoes_55 (by omega) ?_
            refine n_icmp_ge (tgt := 93) hx hb dX6_netDoes_56 (by decide) (by first | omega | exact bo63 (Nat.le_trans (shl_le (n := 5) (by omega)) (by decide)) | exact Nat.lt_of_le_of_lt Nat.and_le_right (by decide)) (by first | omega | exact bo63 (Nat.le_trans (shl_le (n := 5) (by omega)) (by decide)) | exact Nat.lt_of_le_of_lt Nat.and_le_right (by decide)) (fun c_56 => ?_) (fun c_56 => ?_)
            ·
              refine lv_iconst (v := nI 1) hx hb dX6_netDoes_93 (by decide) ?_
              have hr : netDoes_M μ (nI vn) (nI vf) = ((nI 1), μ) := by unfold netDoes_M; rw [hnn, c_15, if_pos (show (true && true) = true from rfl), hcxn, hcf, if_neg (show ¬ 5 < fcM μ vn by omega), hfd, show 1 <<< fcM μ vn - vs = 0 from by omega] <;> rfl
              refine w_top (v' := .int ((netDoes_M μ (nI vn) (nI vf)).1)) (congrArg (fun z => Value.int z) (congrArg Prod.fst hr).symm) ?_
              have hcw := CW_r (G := G) (o := o) (om := om) hr (CW_m hCW hn0 hS hAw hX hF hRF hRX hvn rfl hN (hNR2) (NE_k (KP_r μ) vn))
              exact hE _ _ _ _ _ _ (kr_i dX6_netDoes_94) hS (by decide) (by decide) hcw
            ·
              refine lv_aload_n hx hb dX6_netDoes_59 rfl (lv_at hl 3 rfl) ?_
              refine lv_iload hx hb dX6_netDoes_60 (lv_at hl 6 rfl) ?_
              cases hz9 : letN μ vn vs
              ·
                refine ctV (rest := []) S hK (c_X4_letsState l G (na vn) ν2 (fM μ vn) (wyM μ vn) vs (by omega) (NR_12 hNR2 hm2) (by omega) (by omega)) cw_X6_220 rfl ⟨Nat.le_of_ble_eq_true rfl, Nat.le_of_ble_eq_true rfl⟩ ⟨Nat.le_of_ble_eq_true rfl, Nat.le_of_ble_eq_true rfl⟩ (bk.recv hK hN rfl rfl) hl.1 rfl (Nat.le_of_ble_eq_true rfl) dX6_netDoes_62 ⟨hN, (NB_w hCW hb0 hn0 hvn hNR2 hS hAw)⟩ hS (fun q h => hAn q h) (fun H locs hPost hz hk hS => ?_)
                obtain ⟨g, hN, hg⟩ := hPost
                replace hX := hX.over hk (fun q h1 h2 => by have h3 : q < o + 6 := h2; intro hA1; omega)
                replace hF := hF.over hk (fun q h1 h2 => by have h3 : q < o + 6 + 4 := h2; intro hA1; omega)
                replace hRF := hRF.over hk (fun q h1 h2 => by have h3 : q < o + 10 + 1 := h2; intro hA1; omega)
                refine w_top (v' := .int (nI 0)) (congrArg (fun z => Value.int (b2i z)) ((sfK_A hQA hNR2 hb0 hn0 hvn (by omega) (by omega)).trans hz9)) ?_
                refine lv_lload hx hb dX6_netDoes_65 (lv_at hl 5 rfl) ?_
                refine lv_iload hx hb dX6_netDoes_67 (lv_at hl 6 rfl) ?_
                refine n_lshr hx hb dX6_netDoes_69 (by first | omega | exact bo63 (Nat.le_trans (shl_le (n := 5) (by omega)) (by decide)) | exact Nat.lt_of_le_of_lt Nat.and_le_right (by decide)) (by first | omega | exact bo63 (Nat.le_trans (shl_le (n := 5) (by omega)) (by decide)) | exact Nat.lt_of_le_of_lt Nat.and_le_right (by decide)) ?_
                refine lv_lconst (v := lN 1) hx hb dX6_netDoes_70 (by decide) ?_
                refine n_land hx hb dX6_netDoes_71 ?_
                refine lv_lconst (v := lN 0) hx hb dX6_netDoes_72 (by decide) ?_
                refine W.lcmp hx hb dX6_netDoes_73 ?_
                refine nl_if_eq (tgt := 81) hx hb dX6_netDoes_74 (by decide) (Nat.lt_of_le_of_lt Nat.and_le_right (by decide)) (by decide) (fun c_74 => ?_) (fun c_74 => ?_)
                ·
                  have htr : trB μ vf vs = false := by
                    have q := tb0.mp c_74
                    rw [bo_tb, decide_eq_true (show vs < 1 <<< fcM μ vn by omega), Bool.true_and] at q
                    exact q
                  refine lv_iconst (v := nI 0) hx hb dX6_netDoes_81 (by decide) ?_
                  refine n_icmp_eq (tgt := 87) hx hb dX6_netDoes_82 (by decide) (by decide) (by decide) (fun c_82 => ?_) (fun c_82 => ?_)
                  ·
                    have hnd : ndB μ vn vf vs = false := by
                      show decide (¬ letN μ vn vs = trB μ vf vs) = _
                      rw [hz9, htr]
                      rfl
                    refine lv_iinc (v := (nI (vs + 1))) (lv' := [(7, .int (nI (vs + 1))), (0, .ref o), (1, .int (nI vn)), (2, .int (nI vf)), (3, .ref (na vn)), (4, .int (nI (fcM μ vn))), (5, .long (lN (bo (trB μ vf) (1 <<< fcM μ vn))))]) hx hb dX6_netDoes_87 hl (k := 6) rfl (inc1 _) (by decide) rfl (fun ls hl => ?_)
                    refine lv_goto (tgt := 50) hx hb dX6_netDoes_90 (by decide) ?_
                    exact ih50 (vs + 1) (uR ν2 4 g) (by omega) (NR_4 hNR2 g) (hfd.trans (by rw [show 1 <<< fcM μ vn - vs = (1 <<< fcM μ vn - (vs + 1)) + 1 from by omega]; exact fnd_f hnd)) (by omega) _ _ hX hF hRF hN hS ls (lv_sub hl [1, 2, 3, 4, 5, 6, 0] rfl)
                  ·
                    exact absurd c_82 (by decide)
                ·
                  have htr : trB μ vf vs = true := by
                    have q := tb1.mp c_74
                    rw [bo_tb, decide_eq_true (show vs < 1 <<< fcM μ vn by omega), Bool.true_and] at q
                    exact q
                  refine lv_iconst (v := nI 1) hx hb dX6_netDoes_77 (by decide) ?_
                  refine lv_goto (tgt := 82) hx hb dX6_netDoes_78 (by decide) ?_
                  refine n_icmp_eq (tgt := 87) hx hb dX6_netDoes_82 (by decide) (by decide) (by decide) (fun c_82 => ?_) (fun c_82 => ?_)
                  ·
                    exact absurd c_82 (by decide)
                  ·
                    have hnd : ndB μ vn vf vs = true := by
                      show decide (¬ letN μ vn vs = trB μ vf vs) = _
                      rw [hz9, htr]
                      rfl
                    refine lv_iconst (v := nI 0) hx hb dX6_netDoes_85 (by decide) ?_
                    have hr : netDoes_M μ (nI vn) (nI vf) = ((nI 0), μ) := by unfold netDoes_M; rw [hnn, c_15, if_pos (show (true && true) = true from rfl), hcxn, hcf, if_neg (show ¬ 5 < fcM μ vn by omega), hfd, show 1 <<< fcM μ vn - vs = (1 <<< fcM μ vn - (vs + 1)) + 1 from by omega, fnd_t hnd] <;> rfl
                    refine w_top (v' := .int ((netDoes_M μ (nI vn) (nI vf)).1)) (congrArg (fun z => Value.int z) (congrArg Prod.fst hr).symm) ?_
                    have hcw := CW_r (G := G) (o := o) (om := om) hr (CW_m hCW hn0 hS hAw hX hF hRF hRX hvn rfl hN (NR_4 hNR2 g) (NE_k (KP_r μ) vn))
                    exact hE _ _ _ _ _ _ (kr_i dX6_netDoes_86) hS (by decide) (by decide) hcw
              ·
                refine ctV (rest := []) S hK (c_X4_letsState l G (na vn) ν2 (fM μ vn) (wyM μ vn) vs (by omega) (NR_12 hNR2 hm2) (by omega) (by omega)) cw_X6_220 rfl ⟨Nat.le_of_ble_eq_true rfl, Nat.le_of_ble_eq_true rfl⟩ ⟨Nat.le_of_ble_eq_true rfl, Nat.le_of_ble_eq_true rfl⟩ (bk.recv hK hN rfl rfl) hl.1 rfl (Nat.le_of_ble_eq_true rfl) dX6_netDoes_62 ⟨hN, (NB_w hCW hb0 hn0 hvn hNR2 hS hAw)⟩ hS (fun q h => hAn q h) (fun H locs hPost hz hk hS => ?_)
                obtain ⟨g, hN, hg⟩ := hPost
                replace hX := hX.over hk (fun q h1 h2 => by have h3 : q < o + 6 := h2; intro hA1; omega)
                replace hF := hF.over hk (fun q h1 h2 => by have h3 : q < o + 6 + 4 := h2; intro hA1; omega)
                replace hRF := hRF.over hk (fun q h1 h2 => by have h3 : q < o + 10 + 1 := h2; intro hA1; omega)
                refine w_top (v' := .int (nI 1)) (congrArg (fun z => Value.int (b2i z)) ((sfK_A hQA hNR2 hb0 hn0 hvn (by omega) (by omega)).trans hz9)) ?_
                refine lv_lload hx hb dX6_netDoes_65 (lv_at hl 5 rfl) ?_
                refine lv_iload hx hb dX6_netDoes_67 (lv_at hl 6 rfl) ?_
                refine n_lshr hx hb dX6_netDoes_69 (by first | omega | exact bo63 (Nat.le_trans (shl_le (n := 5) (by omega)) (by decide)) | exact Nat.lt_of_le_of_lt Nat.and_le_right (by decide)) (by first | omega | exact bo63 (Nat.le_trans (shl_le (n := 5) (by omega)) (by decide)) | exact Nat.lt_of_le_of_lt Nat.and_le_right (by decide)) ?_
                refine lv_lconst (v := lN 1) hx hb dX6_netDoes_70 (by decide) ?_
                refine n_land hx hb dX6_netDoes_71 ?_
                refine lv_lconst (v := lN 0) hx hb dX6_netDoes_72 (by decide) ?_
                refine W.lcmp hx hb dX6_netDoes_73 ?_
                refine nl_if_eq (tgt := 81) hx hb dX6_netDoes_74 (by decide) (Nat.lt_of_le_of_lt Nat.and_le_right (by decide)) (by decide) (fun c_74 => ?_) (fun c_74 => ?_)
                ·
                  have htr : trB μ vf vs = false := by
                    have q := tb0.mp c_74
                    rw [bo_tb, decide_eq_true (show vs < 1 <<< fcM μ vn by omega), Bool.true_and] at q
                    exact q
                  refine lv_iconst (v := nI 0) hx hb dX6_netDoes_81 (by decide) ?_
                  refine n_icmp_eq (tgt := 87) hx hb dX6_netDoes_82 (by decide) (by decide) (by decide) (fun c_82 => ?_) (fun c_82 => ?_)
                  ·
                    exact absurd c_82 (by decide)
                  ·
                    have hnd : ndB μ vn vf vs = true := by
                      show decide (¬ letN μ vn vs = trB μ vf vs) = _
                      rw [hz9, htr]
                      rfl
                    refine lv_iconst (v := nI 0) hx hb dX6_netDoes_85 (by decide) ?_
                    have hr : netDoes_M μ (nI vn) (nI vf) = ((nI 0), μ) := by unfold netDoes_M; rw [hnn, c_15, if_pos (show (true && true) = true from rfl), hcxn, hcf, if_neg (show ¬ 5 < fcM μ vn by omega), hfd, show 1 <<< fcM μ vn - vs = (1 <<< fcM μ vn - (vs + 1)) + 1 from by omega, fnd_t hnd] <;> rfl
                    refine w_top (v' := .int ((netDoes_M μ (nI vn) (nI vf)).1)) (congrArg (fun z => Value.int z) (congrArg Prod.fst hr).symm) ?_
                    have hcw := CW_r (G := G) (o := o) (om := om) hr (CW_m hCW hn0 hS hAw hX hF hRF hRX hvn rfl hN (NR_4 hNR2 g) (NE_k (KP_r μ) vn))
                    exact hE _ _ _ _ _ _ (kr_i dX6_netDoes_86) hS (by decide) (by decide) hcw
                ·
                  have htr : trB μ vf vs = true := by
                    have q := tb1.mp c_74
                    rw [bo_tb, decide_eq_true (show vs < 1 <<< fcM μ vn by omega), Bool.true_and] at q
                    exact q
                  refine lv_iconst (v := nI 1) hx hb dX6_netDoes_77 (by decide) ?_
                  refine lv_goto (tgt := 82) hx hb dX6_netDoes_78 (by decide) ?_
                  refine n_icmp_eq (tgt := 87) hx hb dX6_netDoes_82 (by decide) (by decide) (by decide) (fun c_82 => ?_) (fun c_82 => ?_)
                  ·
                    have hnd : ndB μ vn vf vs = false := by
                      show decide (¬ letN μ vn vs = trB μ vf vs) = _
                      rw [hz9, htr]
                      rfl
                    refine lv_iinc (v := (nI (vs + 1))) (lv' := [(7, .int (nI (vs + 1))), (0, .ref o), (1, .int (nI vn)), (2, .int (nI vf)), (3, .ref (na vn)), (4, .int (nI (fcM μ vn))), (5, .long (lN (bo (trB μ vf) (1 <<< fcM μ vn))))]) hx hb dX6_netDoes_87 hl (k := 6) rfl (inc1 _) (by decide) rfl (fun ls hl => ?_)
                    refine lv_goto (tgt := 50) hx hb dX6_netDoes_90 (by decide) ?_
                    exact ih50 (vs + 1) (uR ν2 4 g) (by omega) (NR_4 hNR2 g) (hfd.trans (by rw [show 1 <<< fcM μ vn - vs = (1 <<< fcM μ vn - (vs + 1)) + 1 from by omega]; exact fnd_f hnd)) (by omega) _ _ hX hF hRF hN hS ls (lv_sub hl [1, 2, 3, 4, 5, 6, 0] rfl)
                  ·
                    exact absurd c_82 (by decide)
        replace hl := lv_eq 1 hl rfl (v2 := .long (lN (bo (trB μ vf) (1 <<< fcM μ vn)))) (congrArg (fun z => Value.long (lN z)) (show (bo (trB μ vf) (1 <<< (fcM μ vn))) = (bo (trB μ vf) (1 <<< fcM μ vn)) from by first | rfl | omega))
        exact L50 ((1 <<< fcM μ vn - 0) + 1) 0 ν (Nat.zero_le _) hNR rfl (Nat.lt_succ_self _) _ _ hX hF hRF hN hS ls (lv_sub hl [4, 5, 6, 3, 2, 1, 0] rfl)
      ·
        refine lv_iconst (v := nI 0) hx hb dX6_netDoes_36 (by decide) ?_
        have hr : netDoes_M μ (nI vn) (nI vf) = ((nI 0), μ) := by unfold netDoes_M; rw [hnn, c_15, if_pos (show (true && true) = true from rfl), hcxn, hcf, if_pos (show 5 < fcM μ vn by omega)] <;> rfl
        refine w_top (v' := .int ((netDoes_M μ (nI vn) (nI vf)).1)) (congrArg (fun z => Value.int z) (congrArg Prod.fst hr).symm) ?_
        have hcw := CW_r (G := G) (o := o) (om := om) hr (CW_m hCW hn0 hS hAw hX hF hRF hRX hvn rfl hN (hNR) (NE_k (KP_r μ) vn))
        exact hE _ _ _ _ _ _ (kr_i dX6_netDoes_37) hS (by decide) (by decide) hcw
    ·
      rw [hF1] at c_15
      refine lv_aload_n hx hb dX6_netDoes_18 rfl (lv_at hl 1 rfl) ?_
      refine lv_iconst (v := (-1)) hx hb dX6_netDoes_19 (by decide) ?_
      refine ctV (rest := []) S hK (c_X6_refuse l G o σ ρ (-1) 1 rfl (by decide)) cw_X6_42 rfl ⟨Nat.le_of_ble_eq_true rfl, Nat.le_of_ble_eq_true rfl⟩ ⟨Nat.le_of_ble_eq_true rfl, Nat.le_of_ble_eq_true rfl⟩ (bk.recv hK hX rfl rfl) hl.1 rfl (Nat.le_of_ble_eq_true rfl) dX6_netDoes_20 ⟨hX, hRF⟩ hS (fun q h => Or.inl (by omega)) (fun H locs hPost hz hk hS => ?_)
      obtain ⟨hX, hRF⟩ := hPost
      replace hF := hF.over hk (fun q h1 h2 => by have h3 : q < o + 6 + 4 := h2; intro hA1; omega)
      replace hN := hN.over hk (fun q h1 h2 => by have h3 : q < na vn + 4 := h2; intro hA1; omega)
      have hr : netDoes_M μ (nI vn) f = ((-1), rfM μ 1) := by unfold netDoes_M; rw [hnn, c_15] <;> rfl
      refine w_top (v' := .int ((netDoes_M μ (nI vn) f).1)) (congrArg (fun z => Value.int z) (congrArg Prod.fst hr).symm) ?_
      have hcw := CW_r (G := G) (o := o) (om := om) hr (CW_m hCW hn0 hS hAw hX hF hRF (RX_rf hRX) hvn rfl hN hNR (NE_k (KP_rf μ _) vn))
      exact hE _ _ _ _ _ _ (kr_i dX6_netDoes_23) hS (by decide) (by decide) hcw
