
/-! walks: the class's calls that read -/

theorem CW_r {α : Type} {G : Gt} {o om : Nat} {x : α × Sx} {v : α} {m : Sx} {H : Heap} (h : x = (v, m)) (q : CW G o om m H) : CW G o om x.2 H := by
  rw [h]
  exact q
theorem pc_on {c : Nat → Nat} (hc : ∀ k, k < 20 → c k = 0 ∨ c k = 1 ∨ 10 ≤ c k) : ∀ n, n ≤ 20 → pcn allP (opB c) n + cF c n = opn c n
  | 0, _ => rfl
  | n + 1, h => by
    have ih := pc_on hc n (by omega)
    show pcn allP (opB c) (n + 1) + (cF c n + (if 10 ≤ c n then 1 else 0)) = opn c n + (if c n = 0 then 0 else 1)
    rw [pcn_s, bo_tb, decide_eq_true (show n < 20 by omega)]
    show (pcn allP (opB c) n + (if (true && (true && decide (c n = 1))) = true then 1 else 0)) + _ = _
    rw [Bool.true_and, Bool.true_and]
    rcases hc n (by omega) with q | q | q
    · rw [decide_eq_false (show ¬ c n = 1 by omega), if_neg (by decide), if_neg (show ¬ 10 ≤ c n by omega), if_pos q]
      omega
    · rw [decide_eq_true q, if_pos rfl, if_neg (show ¬ 10 ≤ c n by omega), if_neg (show ¬ c n = 0 by omega)]
      omega
    · rw [decide_eq_false (show ¬ c n = 1 by omega), if_neg (by decide), if_pos q, if_neg (show ¬ c n = 0 by omega)]
      omega
theorem pc_op {w h f : Nat} {c : Nat → Nat} (q : BS w h f c) : pc20 (opB c) + f = opn c 20 := by
  have := pc_on (c := c) (fun k hk => by rcases q.2.2.1 k hk with z | z | z <;> omega) 20 (Nat.le_refl _)
  rw [cF_f q] at this
  exact this

set_option maxHeartbeats 1000000 in
set_option maxRecDepth 100000 in
theorem c_X6_lets (l : Launch) (G : Gt) (o : Nat) (om : Nat) (μ : Sx) (pa : Nat → Nat) (na : Nat → Nat) (p : Int32) (hb0 : MIb μ) (hn0 : MIn μ) (hif : MIf μ) (hit : MIt μ) (hl0 : MIl μ) (hr0 : MIr μ) : Ct l G yX6_lets cX6_lets 3 ((some .long)) 2 0 0 [.ref o, .int p] (fun H => CWx G o om μ pa na H) (some (.long ((lets_M μ p).1))) (fun H => CW G o om (lets_M μ p).2 H) (fun q => o ≤ q ∧ q < o + 11) := by
  refine ct_entry [(0, .ref o), (1, .int p)] (by decide) (Nat.le_of_ble_eq_true rfl) rfl ?_
  intro zp ze zs zm za zb zt zc Q S hK hPre hin hE ls hl
  have hx := S.1
  have hb := S.2.1
  have hCW := hPre
  have hS : va_S (fun q => o ≤ q ∧ q < o + 11) zs.heap zs.heap [] := va_S.rf
  obtain ⟨⟨hoo, hosz, hLH⟩, σ, φ, ρ, hX, hF, hRF, hRX, hWB, hWN, hAP⟩ := id hCW
  obtain ⟨⟨hT1, hT2⟩, ⟨hP1, hP2⟩, ⟨hF1, hF2⟩, ⟨hN1, hN2⟩, ⟨hR1, hR2⟩, ⟨hL1, hL2, hL3, hL4⟩, hRR⟩ := id hRX
  obtain ⟨h16, -⟩ := id hb0
  obtain ⟨h18, -⟩ := id hn0
  obtain ⟨h17, -⟩ := id hif
  obtain ⟨h22, -⟩ := id hit
  obtain ⟨h19, -⟩ := id hl0
  obtain ⟨h20, -⟩ := id hr0
  refine lv_aload_n hx hb dX6_lets_0 rfl (lv_at hl 0 rfl) ?_
  refine lv_iload_n hx hb dX6_lets_1 rfl (lv_at hl 1 rfl) ?_
  cases hivp : inI p (μ.1 16)
  ·
    refine crV (rest := []) S hK (c_X6_partAt_n l G o σ p (by omega) (by rw [hP1]; exact hivp)) cw_X6_67 rfl ⟨Nat.le_of_ble_eq_true rfl, Nat.le_of_ble_eq_true rfl⟩ ⟨Nat.le_of_ble_eq_true rfl, Nat.le_of_ble_eq_true rfl⟩ (bk.recv hK hX rfl rfl) hl.1 rfl (Nat.le_of_ble_eq_true rfl) dX6_lets_2 hX ?_
    refine lv_astore_nN (lv' := [(2, .null), (0, .ref o), (1, .int p)]) hx hb dX6_lets_5 rfl hl (by decide) rfl (fun ls hl => ?_)
    refine lv_aload_nN hx hb dX6_lets_6 rfl (lv_at hl 0 rfl) ?_
    refine lv_ifnonnullN hx hb dX6_lets_7 ?_
    refine lv_aload_n hx hb dX6_lets_10 rfl (lv_at hl 1 rfl) ?_
    refine lv_iconst (v := (-1)) hx hb dX6_lets_11 (by decide) ?_
    refine ctV (rest := []) S hK (c_X6_refuseLong l G o σ ρ (-1) 1 rfl (by decide)) cw_X6_96 rfl ⟨Nat.le_of_ble_eq_true rfl, Nat.le_of_ble_eq_true rfl⟩ ⟨Nat.le_of_ble_eq_true rfl, Nat.le_of_ble_eq_true rfl⟩ (bk.recv hK hX rfl rfl) hl.1 rfl (Nat.le_of_ble_eq_true rfl) dX6_lets_12 ⟨hX, hRF⟩ hS (fun _ h => by first | exact h | omega) (fun H locs hPost hz hk hS => ?_)
    obtain ⟨hX, hRF⟩ := hPost
    replace hF := hF.over hk (fun q h1 h2 => by have h3 : q < o + 6 + 4 := h2; intro hA1; omega)
    refine lv_goto (tgt := 22) hx hb dX6_lets_15 (by decide) ?_
    have hr : lets_M μ p = ((lN 4000000000000000000 - (-1).toInt64), rfM μ 1) := by unfold lets_M; rw [hivp] <;> rfl
    refine w_top (v' := .long ((lets_M μ p).1)) (congrArg (fun z => Value.long z) (congrArg Prod.fst hr).symm) ?_
    have hcw := CW_r (G := G) (o := o) (om := om) hr (CW_x hCW hS (fun q h => by first | exact Or.inl h | omega) hX hF hRF (RX_rf hRX) (KP_rf μ _))
    exact hE _ _ _ _ _ _ (kr_l dX6_lets_22) hS (by decide) (by decide) hcw
  ·
    obtain ⟨vp, hvvp, rfl⟩ := inI_x hivp
    have hcxvp := cx_n (j := vp) (by omega)
    obtain ⟨hpavp, β, hB, hBGvp, hBCvp⟩ := hWB vp hvvp
    have hBSvp := hb0.2 vp hvvp
    obtain ⟨⟨⟨ha1vp, ha2vp⟩, ⟨ha3vp, ha4vp⟩, ha5vp⟩, hbOvp, hbCvp, hbEvp, hbUvp⟩ := id hBSvp
    obtain ⟨hg0vp, hg1vp, hg2vp, hg3vp, hg4vp, hgFvp⟩ := id hBGvp
    obtain ⟨hc6vp, hc7vp, hc8vp⟩ := id hBCvp
    refine crV (rest := []) S hK (c_X6_partAt_y l G o σ vp (pa vp) (by omega) (by omega) (hP2 _ hvvp)) cw_X6_67 rfl ⟨Nat.le_of_ble_eq_true rfl, Nat.le_of_ble_eq_true rfl⟩ ⟨Nat.le_of_ble_eq_true rfl, Nat.le_of_ble_eq_true rfl⟩ (bk.recv hK hX rfl rfl) hl.1 rfl (Nat.le_of_ble_eq_true rfl) dX6_lets_2 hX ?_
    refine lv_astore_n (lv' := [(2, .ref (pa vp)), (0, .ref o), (1, .int (nI vp))]) hx hb dX6_lets_5 rfl hl (by decide) rfl (fun ls hl => ?_)
    refine lv_aload_n hx hb dX6_lets_6 rfl (lv_at hl 0 rfl) ?_
    refine lv_ifnonnull (tgt := 18) hx hb dX6_lets_7 (by decide) ?_
    refine lv_aload_n hx hb dX6_lets_18 rfl (lv_at hl 0 rfl) ?_
    refine kg (C := RX0) (T := TX0) (N := 9) (ci := 0) (k := 7) (v := .long (lN (β.1 7))) S hK rfl inX0 (by decide) q_210 dX6_lets_19 hB rfl rfl ?_
    have hr : lets_M μ (nI vp) = ((lN (β.1 7)), μ) := by unfold lets_M; rw [hivp, hcxvp, hc7vp] <;> rfl
    refine w_top (v' := .long ((lets_M μ (nI vp)).1)) (congrArg (fun z => Value.long z) (congrArg Prod.fst hr).symm) ?_
    have hcw := CW_r (G := G) (o := o) (om := om) hr (CW_x hCW hS (fun q h => by first | exact Or.inl h | omega) hX hF hRF (hRX) (KP_r μ))
    exact hE _ _ _ _ _ _ (kr_l dX6_lets_22) hS (by decide) (by decide) hcw

set_option maxHeartbeats 1000000 in
set_option maxRecDepth 100000 in
theorem c_X6_barred (l : Launch) (G : Gt) (o : Nat) (om : Nat) (μ : Sx) (pa : Nat → Nat) (na : Nat → Nat) (p : Int32) (hb0 : MIb μ) (hn0 : MIn μ) (hif : MIf μ) (hit : MIt μ) (hl0 : MIl μ) (hr0 : MIr μ) : Ct l G yX6_barred cX6_barred 3 ((some .long)) 2 0 0 [.ref o, .int p] (fun H => CWx G o om μ pa na H) (some (.long ((barred_M μ p).1))) (fun H => CW G o om (barred_M μ p).2 H) (fun q => o ≤ q ∧ q < o + 11) := by
  refine ct_entry [(0, .ref o), (1, .int p)] (by decide) (Nat.le_of_ble_eq_true rfl) rfl ?_
  intro zp ze zs zm za zb zt zc Q S hK hPre hin hE ls hl
  have hx := S.1
  have hb := S.2.1
  have hCW := hPre
  have hS : va_S (fun q => o ≤ q ∧ q < o + 11) zs.heap zs.heap [] := va_S.rf
  obtain ⟨⟨hoo, hosz, hLH⟩, σ, φ, ρ, hX, hF, hRF, hRX, hWB, hWN, hAP⟩ := id hCW
  obtain ⟨⟨hT1, hT2⟩, ⟨hP1, hP2⟩, ⟨hF1, hF2⟩, ⟨hN1, hN2⟩, ⟨hR1, hR2⟩, ⟨hL1, hL2, hL3, hL4⟩, hRR⟩ := id hRX
  obtain ⟨h16, -⟩ := id hb0
  obtain ⟨h18, -⟩ := id hn0
  obtain ⟨h17, -⟩ := id hif
  obtain ⟨h22, -⟩ := id hit
  obtain ⟨h19, -⟩ := id hl0
  obtain ⟨h20, -⟩ := id hr0
  refine lv_aload_n hx hb dX6_barred_0 rfl (lv_at hl 0 rfl) ?_
  refine lv_iload_n hx hb dX6_barred_1 rfl (lv_at hl 1 rfl) ?_
  cases hivp : inI p (μ.1 16)
  ·
    refine crV (rest := []) S hK (c_X6_partAt_n l G o σ p (by omega) (by rw [hP1]; exact hivp)) cw_X6_67 rfl ⟨Nat.le_of_ble_eq_true rfl, Nat.le_of_ble_eq_true rfl⟩ ⟨Nat.le_of_ble_eq_true rfl, Nat.le_of_ble_eq_true rfl⟩ (bk.recv hK hX rfl rfl) hl.1 rfl (Nat.le_of_ble_eq_true rfl) dX6_barred_2 hX ?_
    refine lv_astore_nN (lv' := [(2, .null), (0, .ref o), (1, .int p)]) hx hb dX6_barred_5 rfl hl (by decide) rfl (fun ls hl => ?_)
    refine lv_aload_nN hx hb dX6_barred_6 rfl (lv_at hl 0 rfl) ?_
    refine lv_ifnonnullN hx hb dX6_barred_7 ?_
    refine lv_aload_n hx hb dX6_barred_10 rfl (lv_at hl 1 rfl) ?_
    refine lv_iconst (v := (-1)) hx hb dX6_barred_11 (by decide) ?_
    refine ctV (rest := []) S hK (c_X6_refuseLong l G o σ ρ (-1) 1 rfl (by decide)) cw_X6_96 rfl ⟨Nat.le_of_ble_eq_true rfl, Nat.le_of_ble_eq_true rfl⟩ ⟨Nat.le_of_ble_eq_true rfl, Nat.le_of_ble_eq_true rfl⟩ (bk.recv hK hX rfl rfl) hl.1 rfl (Nat.le_of_ble_eq_true rfl) dX6_barred_12 ⟨hX, hRF⟩ hS (fun _ h => by first | exact h | omega) (fun H locs hPost hz hk hS => ?_)
    obtain ⟨hX, hRF⟩ := hPost
    replace hF := hF.over hk (fun q h1 h2 => by have h3 : q < o + 6 + 4 := h2; intro hA1; omega)
    refine lv_goto (tgt := 22) hx hb dX6_barred_15 (by decide) ?_
    have hr : barred_M μ p = ((lN 4000000000000000000 - (-1).toInt64), rfM μ 1) := by unfold barred_M; rw [hivp] <;> rfl
    refine w_top (v' := .long ((barred_M μ p).1)) (congrArg (fun z => Value.long z) (congrArg Prod.fst hr).symm) ?_
    have hcw := CW_r (G := G) (o := o) (om := om) hr (CW_x hCW hS (fun q h => by first | exact Or.inl h | omega) hX hF hRF (RX_rf hRX) (KP_rf μ _))
    exact hE _ _ _ _ _ _ (kr_l dX6_barred_22) hS (by decide) (by decide) hcw
  ·
    obtain ⟨vp, hvvp, rfl⟩ := inI_x hivp
    have hcxvp := cx_n (j := vp) (by omega)
    obtain ⟨hpavp, β, hB, hBGvp, hBCvp⟩ := hWB vp hvvp
    have hBSvp := hb0.2 vp hvvp
    obtain ⟨⟨⟨ha1vp, ha2vp⟩, ⟨ha3vp, ha4vp⟩, ha5vp⟩, hbOvp, hbCvp, hbEvp, hbUvp⟩ := id hBSvp
    obtain ⟨hg0vp, hg1vp, hg2vp, hg3vp, hg4vp, hgFvp⟩ := id hBGvp
    obtain ⟨hc6vp, hc7vp, hc8vp⟩ := id hBCvp
    refine crV (rest := []) S hK (c_X6_partAt_y l G o σ vp (pa vp) (by omega) (by omega) (hP2 _ hvvp)) cw_X6_67 rfl ⟨Nat.le_of_ble_eq_true rfl, Nat.le_of_ble_eq_true rfl⟩ ⟨Nat.le_of_ble_eq_true rfl, Nat.le_of_ble_eq_true rfl⟩ (bk.recv hK hX rfl rfl) hl.1 rfl (Nat.le_of_ble_eq_true rfl) dX6_barred_2 hX ?_
    refine lv_astore_n (lv' := [(2, .ref (pa vp)), (0, .ref o), (1, .int (nI vp))]) hx hb dX6_barred_5 rfl hl (by decide) rfl (fun ls hl => ?_)
    refine lv_aload_n hx hb dX6_barred_6 rfl (lv_at hl 0 rfl) ?_
    refine lv_ifnonnull (tgt := 18) hx hb dX6_barred_7 (by decide) ?_
    refine lv_aload_n hx hb dX6_barred_18 rfl (lv_at hl 0 rfl) ?_
    refine kg (C := RX0) (T := TX0) (N := 9) (ci := 0) (k := 8) (v := .long (lN (β.1 8))) S hK rfl inX0 (by decide) q_212 dX6_barred_19 hB rfl rfl ?_
    have hr : barred_M μ (nI vp) = ((lN (β.1 8)), μ) := by unfold barred_M; rw [hivp, hcxvp, hc8vp] <;> rfl
    refine w_top (v' := .long ((barred_M μ (nI vp)).1)) (congrArg (fun z => Value.long z) (congrArg Prod.fst hr).symm) ?_
    have hcw := CW_r (G := G) (o := o) (om := om) hr (CW_x hCW hS (fun q h => by first | exact Or.inl h | omega) hX hF hRF (hRX) (KP_r μ))
    exact hE _ _ _ _ _ _ (kr_l dX6_barred_22) hS (by decide) (by decide) hcw

set_option maxHeartbeats 1000000 in
set_option maxRecDepth 100000 in
theorem c_X6_ways (l : Launch) (G : Gt) (o : Nat) (om : Nat) (μ : Sx) (pa : Nat → Nat) (na : Nat → Nat) (p : Int32) (st : Int32) (hb0 : MIb μ) (hn0 : MIn μ) (hif : MIf μ) (hit : MIt μ) (hl0 : MIl μ) (hr0 : MIr μ) : Ct l G yX6_ways cX6_ways 4 ((some .int)) 3 0 0 [.ref o, .int p, .int st] (fun H => CWx G o om μ pa na H) (some (.int ((ways_M μ p st).1))) (fun H => CW G o om (ways_M μ p st).2 H) (fun q => o ≤ q ∧ q < o + 11) := by
  refine ct_entry [(0, .ref o), (1, .int p), (2, .int st)] (by decide) (Nat.le_of_ble_eq_true rfl) rfl ?_
  intro zp ze zs zm za zb zt zc Q S hK hPre hin hE ls hl
  have hx := S.1
  have hb := S.2.1
  have hCW := hPre
  have hS : va_S (fun q => o ≤ q ∧ q < o + 11) zs.heap zs.heap [] := va_S.rf
  obtain ⟨⟨hoo, hosz, hLH⟩, σ, φ, ρ, hX, hF, hRF, hRX, hWB, hWN, hAP⟩ := id hCW
  obtain ⟨⟨hT1, hT2⟩, ⟨hP1, hP2⟩, ⟨hF1, hF2⟩, ⟨hN1, hN2⟩, ⟨hR1, hR2⟩, ⟨hL1, hL2, hL3, hL4⟩, hRR⟩ := id hRX
  obtain ⟨h16, -⟩ := id hb0
  obtain ⟨h18, -⟩ := id hn0
  obtain ⟨h17, -⟩ := id hif
  obtain ⟨h22, -⟩ := id hit
  obtain ⟨h19, -⟩ := id hl0
  obtain ⟨h20, -⟩ := id hr0
  refine lv_aload_n hx hb dX6_ways_0 rfl (lv_at hl 0 rfl) ?_
  refine lv_iload_n hx hb dX6_ways_1 rfl (lv_at hl 1 rfl) ?_
  cases hivp : inI p (μ.1 16)
  ·
    refine crV (rest := []) S hK (c_X6_partAt_n l G o σ p (by omega) (by rw [hP1]; exact hivp)) cw_X6_67 rfl ⟨Nat.le_of_ble_eq_true rfl, Nat.le_of_ble_eq_true rfl⟩ ⟨Nat.le_of_ble_eq_true rfl, Nat.le_of_ble_eq_true rfl⟩ (bk.recv hK hX rfl rfl) hl.1 rfl (Nat.le_of_ble_eq_true rfl) dX6_ways_2 hX ?_
    refine lv_astore_nN (lv' := [(3, .null), (0, .ref o), (1, .int p), (2, .int st)]) hx hb dX6_ways_5 rfl hl (by decide) rfl (fun ls hl => ?_)
    refine lv_aload_nN hx hb dX6_ways_6 rfl (lv_at hl 0 rfl) ?_
    refine lv_ifnullN (tgt := 18) hx hb dX6_ways_7 (by decide) ?_
    refine lv_aload_n hx hb dX6_ways_18 rfl (lv_at hl 1 rfl) ?_
    refine lv_iconst (v := (-1)) hx hb dX6_ways_19 (by decide) ?_
    refine ctV (rest := []) S hK (c_X6_refuse l G o σ ρ (-1) 1 rfl (by decide)) cw_X6_42 rfl ⟨Nat.le_of_ble_eq_true rfl, Nat.le_of_ble_eq_true rfl⟩ ⟨Nat.le_of_ble_eq_true rfl, Nat.le_of_ble_eq_true rfl⟩ (bk.recv hK hX rfl rfl) hl.1 rfl (Nat.le_of_ble_eq_true rfl) dX6_ways_20 ⟨hX, hRF⟩ hS (fun _ h => by first | exact h | omega) (fun H locs hPost hz hk hS => ?_)
    obtain ⟨hX, hRF⟩ := hPost
    replace hF := hF.over hk (fun q h1 h2 => by have h3 : q < o + 6 + 4 := h2; intro hA1; omega)
    have hr : ways_M μ p st = ((-1), rfM μ 1) := by unfold ways_M; rw [hivp] <;> rfl
    refine w_top (v' := .int ((ways_M μ p st).1)) (congrArg (fun z => Value.int z) (congrArg Prod.fst hr).symm) ?_
    have hcw := CW_r (G := G) (o := o) (om := om) hr (CW_x hCW hS (fun q h => by first | exact Or.inl h | omega) hX hF hRF (RX_rf hRX) (KP_rf μ _))
    exact hE _ _ _ _ _ _ (kr_i dX6_ways_23) hS (by decide) (by decide) hcw
  ·
    obtain ⟨vp, hvvp, rfl⟩ := inI_x hivp
    have hcxvp := cx_n (j := vp) (by omega)
    obtain ⟨hpavp, β, hB, hBGvp, hBCvp⟩ := hWB vp hvvp
    have hBSvp := hb0.2 vp hvvp
    obtain ⟨⟨⟨ha1vp, ha2vp⟩, ⟨ha3vp, ha4vp⟩, ha5vp⟩, hbOvp, hbCvp, hbEvp, hbUvp⟩ := id hBSvp
    obtain ⟨hg0vp, hg1vp, hg2vp, hg3vp, hg4vp, hgFvp⟩ := id hBGvp
    obtain ⟨hc6vp, hc7vp, hc8vp⟩ := id hBCvp
    refine crV (rest := []) S hK (c_X6_partAt_y l G o σ vp (pa vp) (by omega) (by omega) (hP2 _ hvvp)) cw_X6_67 rfl ⟨Nat.le_of_ble_eq_true rfl, Nat.le_of_ble_eq_true rfl⟩ ⟨Nat.le_of_ble_eq_true rfl, Nat.le_of_ble_eq_true rfl⟩ (bk.recv hK hX rfl rfl) hl.1 rfl (Nat.le_of_ble_eq_true rfl) dX6_ways_2 hX ?_
    refine lv_astore_n (lv' := [(3, .ref (pa vp)), (0, .ref o), (1, .int (nI vp)), (2, .int st)]) hx hb dX6_ways_5 rfl hl (by decide) rfl (fun ls hl => ?_)
    refine lv_aload_n hx hb dX6_ways_6 rfl (lv_at hl 0 rfl) ?_
    refine lv_ifnull hx hb dX6_ways_7 ?_
    refine lv_aload_n hx hb dX6_ways_10 rfl (lv_at hl 0 rfl) ?_
    refine lv_iload_n hx hb dX6_ways_11 rfl (lv_at hl 3 rfl) ?_
    refine crV (rest := []) S hK (c_X0_hasState l G (pa vp) β st (by omega)) cw_X6_104 rfl ⟨Nat.le_of_ble_eq_true rfl, Nat.le_of_ble_eq_true rfl⟩ ⟨Nat.le_of_ble_eq_true rfl, Nat.le_of_ble_eq_true rfl⟩ (bk.recv hK hB rfl rfl) hl.1 rfl (Nat.le_of_ble_eq_true rfl) dX6_ways_12 hB ?_
    refine z_if_ne (tgt := 24) hx hb dX6_ways_15 (by decide) (fun c_15 => ?_) (fun c_15 => ?_)
    ·
      rw [hg4vp] at c_15
      obtain ⟨vs, hvs, rfl⟩ := inI_x c_15
      have hsh := shl_le ha5vp
      have hcs := cx_n (j := vs) (by omega)
      refine lv_aload_n hx hb dX6_ways_24 rfl (lv_at hl 0 rfl) ?_
      refine kg (C := RX0) (T := TX0) (N := 9) (ci := 0) (k := 6) (v := .ref (pa vp + 3)) S hK rfl inX0 (by decide) q_208 dX6_ways_25 hB rfl rfl ?_
      refine lv_iload_n hx hb dX6_ways_28 rfl (lv_at hl 3 rfl) ?_
      refine kil (f := β.2.1 6) S hK dX6_ways_29 3 hB rfl (by decide) rfl (by omega) ?_
      have hr : ways_M μ (nI vp) (nI vs) = ((nI (β.2.1 6 vs)), μ) := by unfold ways_M; rw [hivp, hcxvp, c_15, hcs, hc6vp vs hvs] <;> rfl
      refine w_top (v' := .int ((ways_M μ (nI vp) (nI vs)).1)) (congrArg (fun z => Value.int z) (congrArg Prod.fst hr).symm) ?_
      have hcw := CW_r (G := G) (o := o) (om := om) hr (CW_x hCW hS (fun q h => by first | exact Or.inl h | omega) hX hF hRF (hRX) (KP_r μ))
      exact hE _ _ _ _ _ _ (kr_i dX6_ways_30) hS (by decide) (by decide) hcw
    ·
      rw [hg4vp] at c_15
      refine lv_aload_n hx hb dX6_ways_18 rfl (lv_at hl 1 rfl) ?_
      refine lv_iconst (v := (-1)) hx hb dX6_ways_19 (by decide) ?_
      refine ctV (rest := []) S hK (c_X6_refuse l G o σ ρ (-1) 1 rfl (by decide)) cw_X6_42 rfl ⟨Nat.le_of_ble_eq_true rfl, Nat.le_of_ble_eq_true rfl⟩ ⟨Nat.le_of_ble_eq_true rfl, Nat.le_of_ble_eq_true rfl⟩ (bk.recv hK hX rfl rfl) hl.1 rfl (Nat.le_of_ble_eq_true rfl) dX6_ways_20 ⟨hX, hRF⟩ hS (fun _ h => by first | exact h | omega) (fun H locs hPost hz hk hS => ?_)
      obtain ⟨hX, hRF⟩ := hPost
      replace hF := hF.over hk (fun q h1 h2 => by have h3 : q < o + 6 + 4 := h2; intro hA1; omega)
      replace hB := hB.over hk (fun q h1 h2 => by have h3 : q < pa vp + 4 := h2; intro hA1; omega)
      have hr : ways_M μ (nI vp) st = ((-1), rfM μ 1) := by unfold ways_M; rw [hivp, hcxvp, c_15] <;> rfl
      refine w_top (v' := .int ((ways_M μ (nI vp) st).1)) (congrArg (fun z => Value.int z) (congrArg Prod.fst hr).symm) ?_
      have hcw := CW_r (G := G) (o := o) (om := om) hr (CW_x hCW hS (fun q h => by first | exact Or.inl h | omega) hX hF hRF (RX_rf hRX) (KP_rf μ _))
      exact hE _ _ _ _ _ _ (kr_i dX6_ways_23) hS (by decide) (by decide) hcw

set_option maxHeartbeats 1000000 in
set_option maxRecDepth 100000 in
theorem c_X6_cell (l : Launch) (G : Gt) (o : Nat) (om : Nat) (μ : Sx) (pa : Nat → Nat) (na : Nat → Nat) (p : Int32) (xy : Int32) (hb0 : MIb μ) (hn0 : MIn μ) (hif : MIf μ) (hit : MIt μ) (hl0 : MIl μ) (hr0 : MIr μ) : Ct l G yX6_cell cX6_cell 4 ((some .int)) 3 0 0 [.ref o, .int p, .int xy] (fun H => CWx G o om μ pa na H) (some (.int ((cell_M μ p xy).1))) (fun H => CW G o om (cell_M μ p xy).2 H) (fun q => o ≤ q ∧ q < o + 11) := by
  refine ct_entry [(0, .ref o), (1, .int p), (2, .int xy)] (by decide) (Nat.le_of_ble_eq_true rfl) rfl ?_
  intro zp ze zs zm za zb zt zc Q S hK hPre hin hE ls hl
  have hx := S.1
  have hb := S.2.1
  have hCW := hPre
  have hS : va_S (fun q => o ≤ q ∧ q < o + 11) zs.heap zs.heap [] := va_S.rf
  obtain ⟨⟨hoo, hosz, hLH⟩, σ, φ, ρ, hX, hF, hRF, hRX, hWB, hWN, hAP⟩ := id hCW
  obtain ⟨⟨hT1, hT2⟩, ⟨hP1, hP2⟩, ⟨hF1, hF2⟩, ⟨hN1, hN2⟩, ⟨hR1, hR2⟩, ⟨hL1, hL2, hL3, hL4⟩, hRR⟩ := id hRX
  obtain ⟨h16, -⟩ := id hb0
  obtain ⟨h18, -⟩ := id hn0
  obtain ⟨h17, -⟩ := id hif
  obtain ⟨h22, -⟩ := id hit
  obtain ⟨h19, -⟩ := id hl0
  obtain ⟨h20, -⟩ := id hr0
  refine lv_aload_n hx hb dX6_cell_0 rfl (lv_at hl 0 rfl) ?_
  refine lv_iload_n hx hb dX6_cell_1 rfl (lv_at hl 1 rfl) ?_
  cases hivp : inI p (μ.1 16)
  ·
    refine crV (rest := []) S hK (c_X6_partAt_n l G o σ p (by omega) (by rw [hP1]; exact hivp)) cw_X6_67 rfl ⟨Nat.le_of_ble_eq_true rfl, Nat.le_of_ble_eq_true rfl⟩ ⟨Nat.le_of_ble_eq_true rfl, Nat.le_of_ble_eq_true rfl⟩ (bk.recv hK hX rfl rfl) hl.1 rfl (Nat.le_of_ble_eq_true rfl) dX6_cell_2 hX ?_
    refine lv_astore_nN (lv' := [(3, .null), (0, .ref o), (1, .int p), (2, .int xy)]) hx hb dX6_cell_5 rfl hl (by decide) rfl (fun ls hl => ?_)
    refine lv_aload_nN hx hb dX6_cell_6 rfl (lv_at hl 0 rfl) ?_
    refine lv_ifnullN (tgt := 18) hx hb dX6_cell_7 (by decide) ?_
    refine lv_aload_n hx hb dX6_cell_18 rfl (lv_at hl 1 rfl) ?_
    refine lv_iconst (v := (-1)) hx hb dX6_cell_19 (by decide) ?_
    refine ctV (rest := []) S hK (c_X6_refuse l G o σ ρ (-1) 1 rfl (by decide)) cw_X6_42 rfl ⟨Nat.le_of_ble_eq_true rfl, Nat.le_of_ble_eq_true rfl⟩ ⟨Nat.le_of_ble_eq_true rfl, Nat.le_of_ble_eq_true rfl⟩ (bk.recv hK hX rfl rfl) hl.1 rfl (Nat.le_of_ble_eq_true rfl) dX6_cell_20 ⟨hX, hRF⟩ hS (fun _ h => by first | exact h | omega) (fun H locs hPost hz hk hS => ?_)
    obtain ⟨hX, hRF⟩ := hPost
    replace hF := hF.over hk (fun q h1 h2 => by have h3 : q < o + 6 + 4 := h2; intro hA1; omega)
    have hr : cell_M μ p xy = ((-1), rfM μ 1) := by unfold cell_M; rw [hivp] <;> rfl
    refine w_top (v' := .int ((cell_M μ p xy).1)) (congrArg (fun z => Value.int z) (congrArg Prod.fst hr).symm) ?_
    have hcw := CW_r (G := G) (o := o) (om := om) hr (CW_x hCW hS (fun q h => by first | exact Or.inl h | omega) hX hF hRF (RX_rf hRX) (KP_rf μ _))
    exact hE _ _ _ _ _ _ (kr_i dX6_cell_23) hS (by decide) (by decide) hcw
  ·
    obtain ⟨vp, hvvp, rfl⟩ := inI_x hivp
    have hcxvp := cx_n (j := vp) (by omega)
    obtain ⟨hpavp, β, hB, hBGvp, hBCvp⟩ := hWB vp hvvp
    have hBSvp := hb0.2 vp hvvp
    obtain ⟨⟨⟨ha1vp, ha2vp⟩, ⟨ha3vp, ha4vp⟩, ha5vp⟩, hbOvp, hbCvp, hbEvp, hbUvp⟩ := id hBSvp
    obtain ⟨hg0vp, hg1vp, hg2vp, hg3vp, hg4vp, hgFvp⟩ := id hBGvp
    obtain ⟨hc6vp, hc7vp, hc8vp⟩ := id hBCvp
    refine crV (rest := []) S hK (c_X6_partAt_y l G o σ vp (pa vp) (by omega) (by omega) (hP2 _ hvvp)) cw_X6_67 rfl ⟨Nat.le_of_ble_eq_true rfl, Nat.le_of_ble_eq_true rfl⟩ ⟨Nat.le_of_ble_eq_true rfl, Nat.le_of_ble_eq_true rfl⟩ (bk.recv hK hX rfl rfl) hl.1 rfl (Nat.le_of_ble_eq_true rfl) dX6_cell_2 hX ?_
    refine lv_astore_n (lv' := [(3, .ref (pa vp)), (0, .ref o), (1, .int (nI vp)), (2, .int xy)]) hx hb dX6_cell_5 rfl hl (by decide) rfl (fun ls hl => ?_)
    refine lv_aload_n hx hb dX6_cell_6 rfl (lv_at hl 0 rfl) ?_
    refine lv_ifnull hx hb dX6_cell_7 ?_
    refine lv_aload_n hx hb dX6_cell_10 rfl (lv_at hl 0 rfl) ?_
    refine lv_iload_n hx hb dX6_cell_11 rfl (lv_at hl 3 rfl) ?_
    refine crV (rest := []) S hK (c_X0_hasCell l G (pa vp) β xy (by omega) (by omega)) cw_X6_88 rfl ⟨Nat.le_of_ble_eq_true rfl, Nat.le_of_ble_eq_true rfl⟩ ⟨Nat.le_of_ble_eq_true rfl, Nat.le_of_ble_eq_true rfl⟩ (bk.recv hK hB rfl rfl) hl.1 rfl (Nat.le_of_ble_eq_true rfl) dX6_cell_12 hB ?_
    refine z_if_ne (tgt := 24) hx hb dX6_cell_15 (by decide) (fun c_15 => ?_) (fun c_15 => ?_)
    ·
      rw [hg0vp, hg1vp] at c_15
      obtain ⟨j, hj, rfl, hj1, hj2⟩ := isC_x c_15
      have hcj := cx_n hj
      refine lv_aload_n hx hb dX6_cell_24 rfl (lv_at hl 0 rfl) ?_
      refine lv_iload_n hx hb dX6_cell_25 rfl (lv_at hl 3 rfl) ?_
      refine lv_bipush (v := nI 10) hx hb dX6_cell_26 (by decide) ?_
      refine n_idiv hx hb dX6_cell_28 (by omega) (by decide) (by decide) ?_
      refine lv_iload_n hx hb dX6_cell_29 rfl (lv_at hl 3 rfl) ?_
      refine lv_bipush (v := nI 10) hx hb dX6_cell_30 (by decide) ?_
      refine n_irem hx hb dX6_cell_32 (by omega) (by decide) (by decide) ?_
      refine crV (rest := []) S hK (c_X0_codeAt_n l G (pa vp) β (j / 10) (j % 10) (by omega) (by omega) (by omega) (by omega)) cw_X6_92 rfl ⟨Nat.le_of_ble_eq_true rfl, Nat.le_of_ble_eq_true rfl⟩ ⟨Nat.le_of_ble_eq_true rfl, Nat.le_of_ble_eq_true rfl⟩ (bk.recv hK hB rfl rfl) hl.1 rfl (Nat.le_of_ble_eq_true rfl) dX6_cell_33 hB ?_
      refine w_top (v' := .int (nI (clM μ vp (5 * (j % 10) + j / 10)))) (congrArg (fun z => Value.int (nI z)) (hg2vp _ (by omega))) ?_
      have hr : cell_M μ (nI vp) (nI j) = ((nI (clM μ vp (5 * (j % 10) + j / 10))), μ) := by unfold cell_M; rw [hivp, hcxvp, c_15, hcj] <;> rfl
      refine w_top (v' := .int ((cell_M μ (nI vp) (nI j)).1)) (congrArg (fun z => Value.int z) (congrArg Prod.fst hr).symm) ?_
      have hcw := CW_r (G := G) (o := o) (om := om) hr (CW_x hCW hS (fun q h => by first | exact Or.inl h | omega) hX hF hRF (hRX) (KP_r μ))
      exact hE _ _ _ _ _ _ (kr_i dX6_cell_36) hS (by decide) (by decide) hcw
    ·
      rw [hg0vp, hg1vp] at c_15
      refine lv_aload_n hx hb dX6_cell_18 rfl (lv_at hl 1 rfl) ?_
      refine lv_iconst (v := (-1)) hx hb dX6_cell_19 (by decide) ?_
      refine ctV (rest := []) S hK (c_X6_refuse l G o σ ρ (-1) 1 rfl (by decide)) cw_X6_42 rfl ⟨Nat.le_of_ble_eq_true rfl, Nat.le_of_ble_eq_true rfl⟩ ⟨Nat.le_of_ble_eq_true rfl, Nat.le_of_ble_eq_true rfl⟩ (bk.recv hK hX rfl rfl) hl.1 rfl (Nat.le_of_ble_eq_true rfl) dX6_cell_20 ⟨hX, hRF⟩ hS (fun _ h => by first | exact h | omega) (fun H locs hPost hz hk hS => ?_)
      obtain ⟨hX, hRF⟩ := hPost
      replace hF := hF.over hk (fun q h1 h2 => by have h3 : q < o + 6 + 4 := h2; intro hA1; omega)
      replace hB := hB.over hk (fun q h1 h2 => by have h3 : q < pa vp + 4 := h2; intro hA1; omega)
      have hr : cell_M μ (nI vp) xy = ((-1), rfM μ 1) := by unfold cell_M; rw [hivp, hcxvp, c_15] <;> rfl
      refine w_top (v' := .int ((cell_M μ (nI vp) xy).1)) (congrArg (fun z => Value.int z) (congrArg Prod.fst hr).symm) ?_
      have hcw := CW_r (G := G) (o := o) (om := om) hr (CW_x hCW hS (fun q h => by first | exact Or.inl h | omega) hX hF hRF (RX_rf hRX) (KP_rf μ _))
      exact hE _ _ _ _ _ _ (kr_i dX6_cell_23) hS (by decide) (by decide) hcw

set_option maxHeartbeats 1000000 in
set_option maxRecDepth 100000 in
theorem c_X6_covered (l : Launch) (G : Gt) (o : Nat) (om : Nat) (μ : Sx) (pa : Nat → Nat) (na : Nat → Nat) (p : Int32) (st : Int32) (xy : Int32) (hb0 : MIb μ) (hn0 : MIn μ) (hif : MIf μ) (hit : MIt μ) (hl0 : MIl μ) (hr0 : MIr μ) : Ct l G yX6_covered cX6_covered 5 ((some .int)) 16 0 0 [.ref o, .int p, .int st, .int xy] (fun H => CWx G o om μ pa na H) (some (.int ((covered_M μ p st xy).1))) (fun H => CW G o om (covered_M μ p st xy).2 H) (fun q => o ≤ q ∧ q < o + 11) := by
  refine ct_entry [(0, .ref o), (1, .int p), (2, .int st), (3, .int xy)] (by decide) (Nat.le_of_ble_eq_true rfl) rfl ?_
  intro zp ze zs zm za zb zt zc Q S hK hPre hin hE ls hl
  have hx := S.1
  have hb := S.2.1
  have hCW := hPre
  have hS : va_S (fun q => o ≤ q ∧ q < o + 11) zs.heap zs.heap [] := va_S.rf
  obtain ⟨⟨hoo, hosz, hLH⟩, σ, φ, ρ, hX, hF, hRF, hRX, hWB, hWN, hAP⟩ := id hCW
  obtain ⟨⟨hT1, hT2⟩, ⟨hP1, hP2⟩, ⟨hF1, hF2⟩, ⟨hN1, hN2⟩, ⟨hR1, hR2⟩, ⟨hL1, hL2, hL3, hL4⟩, hRR⟩ := id hRX
  obtain ⟨h16, -⟩ := id hb0
  obtain ⟨h18, -⟩ := id hn0
  obtain ⟨h17, -⟩ := id hif
  obtain ⟨h22, -⟩ := id hit
  obtain ⟨h19, -⟩ := id hl0
  obtain ⟨h20, -⟩ := id hr0
  refine lv_aload_n hx hb dX6_covered_0 rfl (lv_at hl 0 rfl) ?_
  refine lv_iload_n hx hb dX6_covered_1 rfl (lv_at hl 1 rfl) ?_
  cases hivp : inI p (μ.1 16)
  ·
    refine crV (rest := []) S hK (c_X6_partAt_n l G o σ p (by omega) (by rw [hP1]; exact hivp)) cw_X6_67 rfl ⟨Nat.le_of_ble_eq_true rfl, Nat.le_of_ble_eq_true rfl⟩ ⟨Nat.le_of_ble_eq_true rfl, Nat.le_of_ble_eq_true rfl⟩ (bk.recv hK hX rfl rfl) hl.1 rfl (Nat.le_of_ble_eq_true rfl) dX6_covered_2 hX ?_
    refine lv_astoreN (lv' := [(4, .null), (0, .ref o), (1, .int p), (2, .int st), (3, .int xy)]) hx hb dX6_covered_5 hl (by decide) rfl (fun ls hl => ?_)
    refine lv_aloadN hx hb dX6_covered_7 (lv_at hl 0 rfl) ?_
    refine lv_ifnullN (tgt := 30) hx hb dX6_covered_9 (by decide) ?_
    refine lv_aload_n hx hb dX6_covered_30 rfl (lv_at hl 1 rfl) ?_
    refine lv_iconst (v := (-1)) hx hb dX6_covered_31 (by decide) ?_
    refine ctV (rest := []) S hK (c_X6_refuse l G o σ ρ (-1) 1 rfl (by decide)) cw_X6_42 rfl ⟨Nat.le_of_ble_eq_true rfl, Nat.le_of_ble_eq_true rfl⟩ ⟨Nat.le_of_ble_eq_true rfl, Nat.le_of_ble_eq_true rfl⟩ (bk.recv hK hX rfl rfl) hl.1 rfl (Nat.le_of_ble_eq_true rfl) dX6_covered_32 ⟨hX, hRF⟩ hS (fun _ h => by first | exact h | omega) (fun H locs hPost hz hk hS => ?_)
    obtain ⟨hX, hRF⟩ := hPost
    replace hF := hF.over hk (fun q h1 h2 => by have h3 : q < o + 6 + 4 := h2; intro hA1; omega)
    have hr : covered_M μ p st xy = ((-1), rfM μ 1) := by unfold covered_M; rw [hivp] <;> rfl
    refine w_top (v' := .int ((covered_M μ p st xy).1)) (congrArg (fun z => Value.int z) (congrArg Prod.fst hr).symm) ?_
    have hcw := CW_r (G := G) (o := o) (om := om) hr (CW_x hCW hS (fun q h => by first | exact Or.inl h | omega) hX hF hRF (RX_rf hRX) (KP_rf μ _))
    exact hE _ _ _ _ _ _ (kr_i dX6_covered_35) hS (by decide) (by decide) hcw
  ·
    obtain ⟨vp, hvvp, rfl⟩ := inI_x hivp
    have hcxvp := cx_n (j := vp) (by omega)
    obtain ⟨hpavp, β, hB, hBGvp, hBCvp⟩ := hWB vp hvvp
    have hBSvp := hb0.2 vp hvvp
    obtain ⟨⟨⟨ha1vp, ha2vp⟩, ⟨ha3vp, ha4vp⟩, ha5vp⟩, hbOvp, hbCvp, hbEvp, hbUvp⟩ := id hBSvp
    obtain ⟨hg0vp, hg1vp, hg2vp, hg3vp, hg4vp, hgFvp⟩ := id hBGvp
    obtain ⟨hc6vp, hc7vp, hc8vp⟩ := id hBCvp
    refine crV (rest := []) S hK (c_X6_partAt_y l G o σ vp (pa vp) (by omega) (by omega) (hP2 _ hvvp)) cw_X6_67 rfl ⟨Nat.le_of_ble_eq_true rfl, Nat.le_of_ble_eq_true rfl⟩ ⟨Nat.le_of_ble_eq_true rfl, Nat.le_of_ble_eq_true rfl⟩ (bk.recv hK hX rfl rfl) hl.1 rfl (Nat.le_of_ble_eq_true rfl) dX6_covered_2 hX ?_
    refine lv_astore (lv' := [(4, .ref (pa vp)), (0, .ref o), (1, .int (nI vp)), (2, .int st), (3, .int xy)]) hx hb dX6_covered_5 hl (by decide) rfl (fun ls hl => ?_)
    refine lv_aload hx hb dX6_covered_7 (lv_at hl 0 rfl) ?_
    refine lv_ifnull hx hb dX6_covered_9 ?_
    refine lv_aload hx hb dX6_covered_12 (lv_at hl 0 rfl) ?_
    refine lv_iload_n hx hb dX6_covered_14 rfl (lv_at hl 3 rfl) ?_
    refine crV (rest := []) S hK (c_X0_hasState l G (pa vp) β st (by omega)) cw_X6_104 rfl ⟨Nat.le_of_ble_eq_true rfl, Nat.le_of_ble_eq_true rfl⟩ ⟨Nat.le_of_ble_eq_true rfl, Nat.le_of_ble_eq_true rfl⟩ (bk.recv hK hB rfl rfl) hl.1 rfl (Nat.le_of_ble_eq_true rfl) dX6_covered_15 hB ?_
    refine z_if_eq (tgt := 30) hx hb dX6_covered_18 (by decide) (fun c_18 => ?_) (fun c_18 => ?_)
    ·
      rw [hg4vp] at c_18
      refine lv_aload_n hx hb dX6_covered_30 rfl (lv_at hl 1 rfl) ?_
      refine lv_iconst (v := (-1)) hx hb dX6_covered_31 (by decide) ?_
      refine ctV (rest := []) S hK (c_X6_refuse l G o σ ρ (-1) 1 rfl (by decide)) cw_X6_42 rfl ⟨Nat.le_of_ble_eq_true rfl, Nat.le_of_ble_eq_true rfl⟩ ⟨Nat.le_of_ble_eq_true rfl, Nat.le_of_ble_eq_true rfl⟩ (bk.recv hK hX rfl rfl) hl.1 rfl (Nat.le_of_ble_eq_true rfl) dX6_covered_32 ⟨hX, hRF⟩ hS (fun _ h => by first | exact h | omega) (fun H locs hPost hz hk hS => ?_)
      obtain ⟨hX, hRF⟩ := hPost
      replace hF := hF.over hk (fun q h1 h2 => by have h3 : q < o + 6 + 4 := h2; intro hA1; omega)
      replace hB := hB.over hk (fun q h1 h2 => by have h3 : q < pa vp + 4 := h2; intro hA1; omega)
      have hr : covered_M μ (nI vp) st xy = ((-1), rfM μ 1) := by unfold covered_M; rw [hivp, hcxvp, c_18] <;> rfl
      refine w_top (v' := .int ((covered_M μ (nI vp) st xy).1)) (congrArg (fun z => Value.int z) (congrArg Prod.fst hr).symm) ?_
      have hcw := CW_r (G := G) (o := o) (om := om) hr (CW_x hCW hS (fun q h => by first | exact Or.inl h | omega) hX hF hRF (RX_rf hRX) (KP_rf μ _))
      exact hE _ _ _ _ _ _ (kr_i dX6_covered_35) hS (by decide) (by decide) hcw
    ·
      rw [hg4vp] at c_18
      obtain ⟨vs, hvs, rfl⟩ := inI_x c_18
      have hsh := shl_le ha5vp
      have hcs := cx_n (j := vs) (by omega)
      refine lv_aload hx hb dX6_covered_21 (lv_at hl 0 rfl) ?_
      refine lv_iload_n hx hb dX6_covered_23 rfl (lv_at hl 4 rfl) ?_
      refine crV (rest := []) S hK (c_X0_hasCell l G (pa vp) β xy (by omega) (by omega)) cw_X6_88 rfl ⟨Nat.le_of_ble_eq_true rfl, Nat.le_of_ble_eq_true rfl⟩ ⟨Nat.le_of_ble_eq_true rfl, Nat.le_of_ble_eq_true rfl⟩ (bk.recv hK hB rfl rfl) hl.1 rfl (Nat.le_of_ble_eq_true rfl) dX6_covered_24 hB ?_
      refine z_if_ne (tgt := 36) hx hb dX6_covered_27 (by decide) (fun c_27 => ?_) (fun c_27 => ?_)
      ·
        rw [hg0vp, hg1vp] at c_27
        obtain ⟨j, hj, rfl, hj1, hj2⟩ := isC_x c_27
        have hcj := cx_n hj
        refine lv_aload hx hb dX6_covered_36 (lv_at hl 0 rfl) ?_
        refine kg (C := RX0) (T := TX0) (N := 9) (ci := 0) (k := 6) (v := .ref (pa vp + 3)) S hK rfl inX0 (by decide) q_208 dX6_covered_38 hB rfl rfl ?_
        refine lv_iload_n hx hb dX6_covered_41 rfl (lv_at hl 3 rfl) ?_
        refine kil (f := β.2.1 6) S hK dX6_covered_42 3 hB rfl (by decide) rfl (by omega) ?_
        refine w_top (v' := .int (nI (tl 10 (tcM (clM μ vp) vs)))) (congrArg (fun z => Value.int (nI z)) (hc6vp vs hvs)) ?_
        refine n_if_ne (tgt := 49) hx hb dX6_covered_43 (by decide) (by first | omega | exact Nat.lt_of_le_of_lt (tl_le 10 _) (by decide)) (fun c_43 => ?_) (fun c_43 => ?_)
        ·
          refine lv_aload hx hb dX6_covered_49 (lv_at hl 0 rfl) ?_
          refine lv_iload_n hx hb dX6_covered_51 rfl (lv_at hl 3 rfl) ?_
          refine lv_iload_n hx hb dX6_covered_52 rfl (lv_at hl 4 rfl) ?_
          refine lv_bipush (v := nI 10) hx hb dX6_covered_53 (by decide) ?_
          refine n_idiv hx hb dX6_covered_55 (by first | omega | exact Nat.lt_of_le_of_lt (tl_le 10 _) (by decide)) (by decide) (by decide) ?_
          refine lv_iload_n hx hb dX6_covered_56 rfl (lv_at hl 4 rfl) ?_
          refine lv_bipush (v := nI 10) hx hb dX6_covered_57 (by decide) ?_
          refine n_irem hx hb dX6_covered_59 (by first | omega | exact Nat.lt_of_le_of_lt (tl_le 10 _) (by decide)) (by decide) (by decide) ?_
          refine crV (rest := []) S hK (c_X0_coverAt l G (pa vp) β (μ.2.1 1 vp) (μ.2.1 2 vp) (μ.2.1 3 vp) (clM μ vp) vs (j / 10) (j % 10) hBSvp hBGvp (by omega) (by omega) (by omega) (tlb_p (by omega))) cw_X6_110 rfl ⟨Nat.le_of_ble_eq_true rfl, Nat.le_of_ble_eq_true rfl⟩ ⟨Nat.le_of_ble_eq_true rfl, Nat.le_of_ble_eq_true rfl⟩ (bk.recv hK hB rfl rfl) hl.1 rfl (Nat.le_of_ble_eq_true rfl) dX6_covered_60 hB ?_
          have hr : covered_M μ (nI vp) (nI vs) (nI j) = ((nI (cvA (clM μ vp) vs (5 * (j % 10) + (j / 10)))), μ) := by
            unfold covered_M
            rw [hivp, hcxvp, c_18, c_27, hcs, hcj, if_pos (by rfl), if_pos (tlb_p (by omega))]
            unfold cvA
            split
            · rfl
            · split <;> rfl
          refine w_top (v' := .int ((covered_M μ (nI vp) (nI vs) (nI j)).1)) (congrArg (fun z => Value.int z) (congrArg Prod.fst hr).symm) ?_
          have hcw := CW_r (G := G) (o := o) (om := om) hr (CW_x hCW hS (fun q h => by first | exact Or.inl h | omega) hX hF hRF (hRX) (KP_r μ))
          exact hE _ _ _ _ _ _ (kr_i dX6_covered_63) hS (by decide) (by decide) hcw
        ·
          refine lv_bipush (v := (-9)) hx hb dX6_covered_46 (by decide) ?_
          have hr : covered_M μ (nI vp) (nI vs) (nI j) = ((-9), μ) := by unfold covered_M; rw [hivp, hcxvp, c_18, c_27, hcs, if_pos (by rfl), if_neg (by rw [tlb_z c_43]; decide)]
          refine w_top (v' := .int ((covered_M μ (nI vp) (nI vs) (nI j)).1)) (congrArg (fun z => Value.int z) (congrArg Prod.fst hr).symm) ?_
          have hcw := CW_r (G := G) (o := o) (om := om) hr (CW_x hCW hS (fun q h => by first | exact Or.inl h | omega) hX hF hRF (hRX) (KP_r μ))
          exact hE _ _ _ _ _ _ (kr_i dX6_covered_48) hS (by decide) (by decide) hcw
      ·
        rw [hg0vp, hg1vp] at c_27
        refine lv_aload_n hx hb dX6_covered_30 rfl (lv_at hl 1 rfl) ?_
        refine lv_iconst (v := (-1)) hx hb dX6_covered_31 (by decide) ?_
        refine ctV (rest := []) S hK (c_X6_refuse l G o σ ρ (-1) 1 rfl (by decide)) cw_X6_42 rfl ⟨Nat.le_of_ble_eq_true rfl, Nat.le_of_ble_eq_true rfl⟩ ⟨Nat.le_of_ble_eq_true rfl, Nat.le_of_ble_eq_true rfl⟩ (bk.recv hK hX rfl rfl) hl.1 rfl (Nat.le_of_ble_eq_true rfl) dX6_covered_32 ⟨hX, hRF⟩ hS (fun _ h => by first | exact h | omega) (fun H locs hPost hz hk hS => ?_)
        obtain ⟨hX, hRF⟩ := hPost
        replace hF := hF.over hk (fun q h1 h2 => by have h3 : q < o + 6 + 4 := h2; intro hA1; omega)
        replace hB := hB.over hk (fun q h1 h2 => by have h3 : q < pa vp + 4 := h2; intro hA1; omega)
        have hr : covered_M μ (nI vp) (nI vs) xy = ((-1), rfM μ 1) := by unfold covered_M; rw [hivp, hcxvp, c_18, c_27] <;> rfl
        refine w_top (v' := .int ((covered_M μ (nI vp) (nI vs) xy).1)) (congrArg (fun z => Value.int z) (congrArg Prod.fst hr).symm) ?_
        have hcw := CW_r (G := G) (o := o) (om := om) hr (CW_x hCW hS (fun q h => by first | exact Or.inl h | omega) hX hF hRF (RX_rf hRX) (KP_rf μ _))
        exact hE _ _ _ _ _ _ (kr_i dX6_covered_35) hS (by decide) (by decide) hcw

set_option maxHeartbeats 1000000 in
set_option maxRecDepth 100000 in
theorem c_X6_partOf (l : Launch) (G : Gt) (o : Nat) (om : Nat) (μ : Sx) (pa : Nat → Nat) (na : Nat → Nat) (p : Int32) (what : Int32) (hb0 : MIb μ) (hn0 : MIn μ) (hif : MIf μ) (hit : MIt μ) (hl0 : MIl μ) (hr0 : MIr μ) : Ct l G yX6_partOf cX6_partOf 4 ((some .int)) 4 0 0 [.ref o, .int p, .int what] (fun H => CWx G o om μ pa na H) (some (.int ((partOf_M μ p what).1))) (fun H => CW G o om (partOf_M μ p what).2 H) (fun q => o ≤ q ∧ q < o + 11) := by
  refine ct_entry [(0, .ref o), (1, .int p), (2, .int what)] (by decide) (Nat.le_of_ble_eq_true rfl) rfl ?_
  intro zp ze zs zm za zb zt zc Q S hK hPre hin hE ls hl
  have hx := S.1
  have hb := S.2.1
  have hCW := hPre
  have hS : va_S (fun q => o ≤ q ∧ q < o + 11) zs.heap zs.heap [] := va_S.rf
  obtain ⟨⟨hoo, hosz, hLH⟩, σ, φ, ρ, hX, hF, hRF, hRX, hWB, hWN, hAP⟩ := id hCW
  obtain ⟨⟨hT1, hT2⟩, ⟨hP1, hP2⟩, ⟨hF1, hF2⟩, ⟨hN1, hN2⟩, ⟨hR1, hR2⟩, ⟨hL1, hL2, hL3, hL4⟩, hRR⟩ := id hRX
  obtain ⟨h16, -⟩ := id hb0
  obtain ⟨h18, -⟩ := id hn0
  obtain ⟨h17, -⟩ := id hif
  obtain ⟨h22, -⟩ := id hit
  obtain ⟨h19, -⟩ := id hl0
  obtain ⟨h20, -⟩ := id hr0
  refine lv_aload_n hx hb dX6_partOf_0 rfl (lv_at hl 0 rfl) ?_
  refine lv_iload_n hx hb dX6_partOf_1 rfl (lv_at hl 1 rfl) ?_
  cases hivp : inI p (μ.1 16)
  ·
    refine crV (rest := []) S hK (c_X6_partAt_n l G o σ p (by omega) (by rw [hP1]; exact hivp)) cw_X6_67 rfl ⟨Nat.le_of_ble_eq_true rfl, Nat.le_of_ble_eq_true rfl⟩ ⟨Nat.le_of_ble_eq_true rfl, Nat.le_of_ble_eq_true rfl⟩ (bk.recv hK hX rfl rfl) hl.1 rfl (Nat.le_of_ble_eq_true rfl) dX6_partOf_2 hX ?_
    refine lv_astore_nN (lv' := [(3, .null), (0, .ref o), (1, .int p), (2, .int what)]) hx hb dX6_partOf_5 rfl hl (by decide) rfl (fun ls hl => ?_)
    refine lv_aload_nN hx hb dX6_partOf_6 rfl (lv_at hl 0 rfl) ?_
    refine lv_ifnonnullN hx hb dX6_partOf_7 ?_
    refine lv_aload_n hx hb dX6_partOf_10 rfl (lv_at hl 1 rfl) ?_
    refine lv_iconst (v := (-1)) hx hb dX6_partOf_11 (by decide) ?_
    refine ctV (rest := []) S hK (c_X6_refuse l G o σ ρ (-1) 1 rfl (by decide)) cw_X6_42 rfl ⟨Nat.le_of_ble_eq_true rfl, Nat.le_of_ble_eq_true rfl⟩ ⟨Nat.le_of_ble_eq_true rfl, Nat.le_of_ble_eq_true rfl⟩ (bk.recv hK hX rfl rfl) hl.1 rfl (Nat.le_of_ble_eq_true rfl) dX6_partOf_12 ⟨hX, hRF⟩ hS (fun _ h => by first | exact h | omega) (fun H locs hPost hz hk hS => ?_)
    obtain ⟨hX, hRF⟩ := hPost
    replace hF := hF.over hk (fun q h1 h2 => by have h3 : q < o + 6 + 4 := h2; intro hA1; omega)
    have hr : partOf_M μ p what = ((-1), rfM μ 1) := by unfold partOf_M; rw [hivp] <;> rfl
    refine w_top (v' := .int ((partOf_M μ p what).1)) (congrArg (fun z => Value.int z) (congrArg Prod.fst hr).symm) ?_
    have hcw := CW_r (G := G) (o := o) (om := om) hr (CW_x hCW hS (fun q h => by first | exact Or.inl h | omega) hX hF hRF (RX_rf hRX) (KP_rf μ _))
    exact hE _ _ _ _ _ _ (kr_i dX6_partOf_15) hS (by decide) (by decide) hcw
  ·
    obtain ⟨vp, hvvp, rfl⟩ := inI_x hivp
    have hcxvp := cx_n (j := vp) (by omega)
    obtain ⟨hpavp, β, hB, hBGvp, hBCvp⟩ := hWB vp hvvp
    have hBSvp := hb0.2 vp hvvp
    obtain ⟨⟨⟨ha1vp, ha2vp⟩, ⟨ha3vp, ha4vp⟩, ha5vp⟩, hbOvp, hbCvp, hbEvp, hbUvp⟩ := id hBSvp
    obtain ⟨hg0vp, hg1vp, hg2vp, hg3vp, hg4vp, hgFvp⟩ := id hBGvp
    obtain ⟨hc6vp, hc7vp, hc8vp⟩ := id hBCvp
    refine crV (rest := []) S hK (c_X6_partAt_y l G o σ vp (pa vp) (by omega) (by omega) (hP2 _ hvvp)) cw_X6_67 rfl ⟨Nat.le_of_ble_eq_true rfl, Nat.le_of_ble_eq_true rfl⟩ ⟨Nat.le_of_ble_eq_true rfl, Nat.le_of_ble_eq_true rfl⟩ (bk.recv hK hX rfl rfl) hl.1 rfl (Nat.le_of_ble_eq_true rfl) dX6_partOf_2 hX ?_
    refine lv_astore_n (lv' := [(3, .ref (pa vp)), (0, .ref o), (1, .int (nI vp)), (2, .int what)]) hx hb dX6_partOf_5 rfl hl (by decide) rfl (fun ls hl => ?_)
    refine lv_aload_n hx hb dX6_partOf_6 rfl (lv_at hl 0 rfl) ?_
    refine lv_ifnonnull (tgt := 16) hx hb dX6_partOf_7 (by decide) ?_
    refine lv_iload_n hx hb dX6_partOf_16 rfl (lv_at hl 3 rfl) ?_
    rcases sw4 what with rfl | rfl | rfl | rfl | hd
    ·
      refine lv_tableIn (off := 31) (tgt := 48) hx hb dX6_partOf_17 (by decide) (by decide) (by decide) (by decide) ?_
      refine lv_aload_n hx hb dX6_partOf_48 rfl (lv_at hl 0 rfl) ?_
      refine kg (C := RX0) (T := TX0) (N := 9) (ci := 0) (k := 0) (v := .int (nI (β.1 0))) S hK rfl inX0 (by decide) q_195 dX6_partOf_49 hB rfl rfl ?_
      have hr : partOf_M μ (nI vp) (0 : Int32) = ((nI (β.1 0)), μ) := by unfold partOf_M; rw [hivp, hcxvp, if_pos (by rfl), if_pos rfl, hg0vp]
      refine w_top (v' := .int ((partOf_M μ (nI vp) (0 : Int32)).1)) (congrArg (fun z => Value.int z) (congrArg Prod.fst hr).symm) ?_
      have hcw := CW_r (G := G) (o := o) (om := om) hr (CW_x hCW hS (fun q h => by first | exact Or.inl h | omega) hX hF hRF (hRX) (KP_r μ))
      exact hE _ _ _ _ _ _ (kr_i dX6_partOf_52) hS (by decide) (by decide) hcw
    ·
      refine lv_tableIn (off := 36) (tgt := 53) hx hb dX6_partOf_17 (by decide) (by decide) (by decide) (by decide) ?_
      refine lv_aload_n hx hb dX6_partOf_53 rfl (lv_at hl 0 rfl) ?_
      refine kg (C := RX0) (T := TX0) (N := 9) (ci := 0) (k := 1) (v := .int (nI (β.1 1))) S hK rfl inX0 (by decide) q_197 dX6_partOf_54 hB rfl rfl ?_
      have hr : partOf_M μ (nI vp) (1 : Int32) = ((nI (β.1 1)), μ) := by unfold partOf_M; rw [hivp, hcxvp, if_pos (by rfl), if_neg (by decide), if_pos rfl, hg1vp]
      refine w_top (v' := .int ((partOf_M μ (nI vp) (1 : Int32)).1)) (congrArg (fun z => Value.int z) (congrArg Prod.fst hr).symm) ?_
      have hcw := CW_r (G := G) (o := o) (om := om) hr (CW_x hCW hS (fun q h => by first | exact Or.inl h | omega) hX hF hRF (hRX) (KP_r μ))
      exact hE _ _ _ _ _ _ (kr_i dX6_partOf_57) hS (by decide) (by decide) hcw
    ·
      refine lv_tableIn (off := 41) (tgt := 58) hx hb dX6_partOf_17 (by decide) (by decide) (by decide) (by decide) ?_
      refine lv_aload_n hx hb dX6_partOf_58 rfl (lv_at hl 0 rfl) ?_
      refine kg (C := RX0) (T := TX0) (N := 9) (ci := 0) (k := 4) (v := .int (nI (β.1 4))) S hK rfl inX0 (by decide) q_202 dX6_partOf_59 hB rfl rfl ?_
      have hr : partOf_M μ (nI vp) (2 : Int32) = ((nI (β.1 4)), μ) := by unfold partOf_M; rw [hivp, hcxvp, if_pos (by rfl), if_neg (by decide), if_neg (by decide), if_pos rfl, hg4vp]
      refine w_top (v' := .int ((partOf_M μ (nI vp) (2 : Int32)).1)) (congrArg (fun z => Value.int z) (congrArg Prod.fst hr).symm) ?_
      have hcw := CW_r (G := G) (o := o) (om := om) hr (CW_x hCW hS (fun q h => by first | exact Or.inl h | omega) hX hF hRF (hRX) (KP_r μ))
      exact hE _ _ _ _ _ _ (kr_i dX6_partOf_62) hS (by decide) (by decide) hcw
    ·
      refine lv_tableIn (off := 46) (tgt := 63) hx hb dX6_partOf_17 (by decide) (by decide) (by decide) (by decide) ?_
      refine lv_aload_n hx hb dX6_partOf_63 rfl (lv_at hl 0 rfl) ?_
      refine kg (C := RX0) (T := TX0) (N := 9) (ci := 0) (k := 3) (v := .int (nI (β.1 3))) S hK rfl inX0 (by decide) q_200 dX6_partOf_64 hB rfl rfl ?_
      refine w_top (v' := .int (nI (opB (clM μ vp)))) (congrArg (fun z => Value.int (nI z)) hg3vp) ?_
      refine crS (rest := []) S hK (c_J6_bitCount_0f7a4 l G (opB (clM μ vp)) (bo_lt _ _)) cw_X6_83 rfl ⟨Nat.le_of_ble_eq_true rfl, Nat.le_of_ble_eq_true rfl⟩ ⟨Nat.le_of_ble_eq_true rfl, Nat.le_of_ble_eq_true rfl⟩ hl.1 rfl (Nat.le_of_ble_eq_true rfl) dX6_partOf_67 trivial ?_
      refine lv_aload_n hx hb dX6_partOf_70 rfl (lv_at hl 0 rfl) ?_
      refine kg (C := RX0) (T := TX0) (N := 9) (ci := 0) (k := 4) (v := .int (nI (β.1 4))) S hK rfl inX0 (by decide) q_202 dX6_partOf_71 hB rfl rfl ?_
      refine n_iadd hx hb dX6_partOf_74 ?_
      have hr : partOf_M μ (nI vp) (3 : Int32) = ((nI ((pc20 (opB (clM μ vp))) + (β.1 4))), μ) := by unfold partOf_M; rw [hivp, hcxvp, if_pos (by rfl), if_neg (by decide), if_neg (by decide), if_neg (by decide), if_pos rfl, hg4vp, pc_op hBSvp]
      refine w_top (v' := .int ((partOf_M μ (nI vp) (3 : Int32)).1)) (congrArg (fun z => Value.int z) (congrArg Prod.fst hr).symm) ?_
      have hcw := CW_r (G := G) (o := o) (om := om) hr (CW_x hCW hS (fun q h => by first | exact Or.inl h | omega) hX hF hRF (hRX) (KP_r μ))
      exact hE _ _ _ _ _ _ (kr_i dX6_partOf_75) hS (by decide) (by decide) hcw
    ·
      refine lv_tableOut (tgt := 76) hx hb dX6_partOf_17 hd (by decide) ?_
      refine lv_aload_n hx hb dX6_partOf_76 rfl (lv_at hl 1 rfl) ?_
      refine lv_bipush (v := (-2)) hx hb dX6_partOf_77 (by decide) ?_
      refine ctV (rest := []) S hK (c_X6_refuse l G o σ ρ (-2) 2 rfl (by decide)) cw_X6_42 rfl ⟨Nat.le_of_ble_eq_true rfl, Nat.le_of_ble_eq_true rfl⟩ ⟨Nat.le_of_ble_eq_true rfl, Nat.le_of_ble_eq_true rfl⟩ (bk.recv hK hX rfl rfl) hl.1 rfl (Nat.le_of_ble_eq_true rfl) dX6_partOf_79 ⟨hX, hRF⟩ hS (fun _ h => by first | exact h | omega) (fun H locs hPost hz hk hS => ?_)
      obtain ⟨hX, hRF⟩ := hPost
      replace hF := hF.over hk (fun q h1 h2 => by have h3 : q < o + 6 + 4 := h2; intro hA1; omega)
      replace hB := hB.over hk (fun q h1 h2 => by have h3 : q < pa vp + 4 := h2; intro hA1; omega)
      have hr : partOf_M μ (nI vp) what = ((-2), rfM μ 2) := by unfold partOf_M; rw [hivp, hcxvp, if_pos (by rfl), if_neg (sw_ne hd (by decide) (by decide)), if_neg (sw_ne hd (by decide) (by decide)), if_neg (sw_ne hd (by decide) (by decide)), if_neg (sw_ne hd (by decide) (by decide))]
      refine w_top (v' := .int ((partOf_M μ (nI vp) what).1)) (congrArg (fun z => Value.int z) (congrArg Prod.fst hr).symm) ?_
      have hcw := CW_r (G := G) (o := o) (om := om) hr (CW_x hCW hS (fun q h => by first | exact Or.inl h | omega) hX hF hRF (RX_rf hRX) (KP_rf μ _))
      exact hE _ _ _ _ _ _ (kr_i dX6_partOf_82) hS (by decide) (by decide) hcw

set_option maxHeartbeats 1000000 in
set_option maxRecDepth 100000 in
theorem c_X6_clear (l : Launch) (G : Gt) (o : Nat) (om : Nat) (μ : Sx) (pa : Nat → Nat) (na : Nat → Nat) (hb0 : MIb μ) (hn0 : MIn μ) (hif : MIf μ) (hit : MIt μ) (hl0 : MIl μ) (hr0 : MIr μ) : Ct l G yX6_clear cX6_clear 2 ((some .int)) 0 0 0 [.ref o] (fun H => CWx G o om μ pa na H) (some (.int ((clear_M μ).1))) (fun H => CW G o om (clear_M μ).2 H) (fun q => o ≤ q ∧ q < o + 11) := by
  refine ct_entry [(0, .ref o)] (by decide) (Nat.le_of_ble_eq_true rfl) rfl ?_
  intro zp ze zs zm za zb zt zc Q S hK hPre hin hE ls hl
  have hx := S.1
  have hb := S.2.1
  have hCW := hPre
  have hS : va_S (fun q => o ≤ q ∧ q < o + 11) zs.heap zs.heap [] := va_S.rf
  obtain ⟨⟨hoo, hosz, hLH⟩, σ, φ, ρ, hX, hF, hRF, hRX, hWB, hWN, hAP⟩ := id hCW
  obtain ⟨⟨hT1, hT2⟩, ⟨hP1, hP2⟩, ⟨hF1, hF2⟩, ⟨hN1, hN2⟩, ⟨hR1, hR2⟩, ⟨hL1, hL2, hL3, hL4⟩, hRR⟩ := id hRX
  obtain ⟨h16, -⟩ := id hb0
  obtain ⟨h18, -⟩ := id hn0
  obtain ⟨h17, -⟩ := id hif
  obtain ⟨h22, -⟩ := id hit
  obtain ⟨h19, -⟩ := id hl0
  obtain ⟨h20, -⟩ := id hr0
  refine lv_aload_n hx hb dX6_clear_0 rfl (lv_at hl 0 rfl) ?_
  refine kg (C := RX6) (T := TX6) (N := 12) (ci := 4) (k := 10) (v := .ref (o + 6)) S hK rfl inX6 (by decide) q_134 dX6_clear_1 hX rfl rfl ?_
  refine kg (C := RX2) (T := TX2) (N := 4) (ci := 1) (k := 3) (v := .int (nI (φ.1 3))) S hK rfl inX2 (by decide) q_112 dX6_clear_4 hF rfl rfl ?_
  refine lv_istore_n (lv' := [(1, .int (nI (φ.1 3))), (0, .ref o)]) hx hb dX6_clear_7 rfl hl (by decide) rfl (fun ls hl => ?_)
  refine lv_aload_n hx hb dX6_clear_8 rfl (lv_at hl 1 rfl) ?_
  refine kg (C := RX6) (T := TX6) (N := 12) (ci := 4) (k := 10) (v := .ref (o + 6)) S hK rfl inX6 (by decide) q_134 dX6_clear_9 hX rfl rfl ?_
  refine lv_iconst (v := nI 0) hx hb dX6_clear_12 (by decide) ?_
  refine kp (C := RX2) (T := TX2) (N := 4) (ci := 1) (k := 3) (ty := .int) tyX2 tyX2_ok nmX2 S hK rfl inX2 (by decide) q_112 rfl dX6_clear_13 rfl rfl rfl hF rfl (Nat.le_of_ble_eq_true rfl) (L1 := flL G (o + 6) (uS φ 3 0)) rfl hS (by first | exact ⟨by omega, by omega⟩ | omega) (fun H locs hF hS hz2 hk => ?_)
  replace hX := hX.kept (fun q h1 h2 => hk q (by have h3 : q < o + 6 := h2; omega))
  replace hRF := hRF.kept (fun q h1 h2 => hk q (by have h3 : q < o + 10 + 1 := h2; omega))
  refine lv_iload_n hx hb dX6_clear_16 rfl (lv_at hl 0 rfl) ?_
  have hr : clear_M μ = ((nI (φ.1 3)), uS μ 19 0) := by unfold clear_M; rw [hL1]
  refine w_top (v' := .int ((clear_M μ).1)) (congrArg (fun z => Value.int z) (congrArg Prod.fst hr).symm) ?_
  have hcw := CW_r (G := G) (o := o) (om := om) hr (CW_x hCW hS (fun q h => by first | exact Or.inl h | omega) hX hF hRF (⟨⟨hT1, hT2⟩, ⟨hP1, hP2⟩, FX_c ⟨hF1, hF2⟩ rfl rfl rfl rfl rfl, ⟨hN1, hN2⟩, ⟨hR1, hR2⟩, ⟨rfl, hL2, hL3, fun k hk => absurd hk (Nat.not_lt_zero k)⟩, hRR⟩) (⟨⟨rfl, rfl⟩, ⟨rfl, rfl, rfl, rfl⟩, rfl, rfl, rfl, rfl, rfl⟩))
  exact hE _ _ _ _ _ _ (kr_i dX6_clear_17) hS (by decide) (by decide) hcw

set_option maxHeartbeats 1000000 in
set_option maxRecDepth 100000 in
theorem c_X6_overlap (l : Launch) (G : Gt) (o : Nat) (om : Nat) (μ : Sx) (pa : Nat → Nat) (na : Nat → Nat) (hb0 : MIb μ) (hn0 : MIn μ) (hif : MIf μ) (hit : MIt μ) (hl0 : MIl μ) (hr0 : MIr μ) : Ct l G yX6_overlap cX6_overlap 1 ((some .int)) 5 0 0 [.ref o] (fun H => CWx G o om μ pa na H) (some (.int (overlap_M μ))) (fun H => CW G o om ((overlap_M μ, μ)).2 H) (fun q => o ≤ q ∧ q < o + 11) := by
  refine ct_entry [(0, .ref o)] (by decide) (Nat.le_of_ble_eq_true rfl) rfl ?_
  intro zp ze zs zm za zb zt zc Q S hK hPre hin hE ls hl
  have hx := S.1
  have hb := S.2.1
  have hCW := hPre
  have hS : va_S (fun q => o ≤ q ∧ q < o + 11) zs.heap zs.heap [] := va_S.rf
  obtain ⟨⟨hoo, hosz, hLH⟩, σ, φ, ρ, hX, hF, hRF, hRX, hWB, hWN, hAP⟩ := id hCW
  obtain ⟨⟨hT1, hT2⟩, ⟨hP1, hP2⟩, ⟨hF1, hF2⟩, ⟨hN1, hN2⟩, ⟨hR1, hR2⟩, ⟨hL1, hL2, hL3, hL4⟩, hRR⟩ := id hRX
  obtain ⟨h16, -⟩ := id hb0
  obtain ⟨h18, -⟩ := id hn0
  obtain ⟨h17, -⟩ := id hif
  obtain ⟨h22, -⟩ := id hit
  obtain ⟨h19, -⟩ := id hl0
  obtain ⟨h20, -⟩ := id hr0
  have hNB : FB G μ φ zs.heap := ⟨hL1, hL2, hL3, fun k hk8 => by
    obtain ⟨-, β, hB, hBG, -⟩ := hWB _ (hl0.2 k hk8).1
    exact ⟨_, β, hL4 k hk8, hB, hBG⟩⟩
  refine lv_aload_n hx hb dX6_overlap_0 rfl (lv_at hl 0 rfl) ?_
  refine kg (C := RX6) (T := TX6) (N := 12) (ci := 4) (k := 10) (v := .ref (o + 6)) S hK rfl inX6 (by decide) q_134 dX6_overlap_1 hX rfl rfl ?_
  refine crV (rest := []) S hK (c_X2_firstOverlap l G (o + 6) φ μ hb0 hl0) cw_X6_233 rfl ⟨Nat.le_of_ble_eq_true rfl, Nat.le_of_ble_eq_true rfl⟩ ⟨Nat.le_of_ble_eq_true rfl, Nat.le_of_ble_eq_true rfl⟩ (bk.recv hK hF rfl rfl) hl.1 rfl (Nat.le_of_ble_eq_true rfl) dX6_overlap_4 ⟨hF, hNB⟩ ?_
  have hr : (overlap_M μ, μ) = ((overlap_M μ), μ) := rfl
  refine w_top (v' := .int (overlap_M μ)) (congrArg (fun z => Value.int z) (congrArg Prod.fst hr).symm) ?_
  have hcw := CW_r (G := G) (o := o) (om := om) hr (CW_x hCW hS (fun q h => by first | exact Or.inl h | omega) hX hF hRF (hRX) (KP_r μ))
  exact hE _ _ _ _ _ _ (kr_i dX6_overlap_7) hS (by decide) (by decide) hcw

set_option maxHeartbeats 1000000 in
set_option maxRecDepth 100000 in
theorem c_X6_leak (l : Launch) (G : Gt) (o : Nat) (om : Nat) (μ : Sx) (pa : Nat → Nat) (na : Nat → Nat) (hb0 : MIb μ) (hn0 : MIn μ) (hif : MIf μ) (hit : MIt μ) (hl0 : MIl μ) (hr0 : MIr μ) : Ct l G yX6_leak cX6_leak 1 ((some .int)) 6 0 0 [.ref o] (fun H => CWx G o om μ pa na H) (some (.int (leak_M μ))) (fun H => CW G o om ((leak_M μ, μ)).2 H) (fun q => o ≤ q ∧ q < o + 11) := by
  refine ct_entry [(0, .ref o)] (by decide) (Nat.le_of_ble_eq_true rfl) rfl ?_
  intro zp ze zs zm za zb zt zc Q S hK hPre hin hE ls hl
  have hx := S.1
  have hb := S.2.1
  have hCW := hPre
  have hS : va_S (fun q => o ≤ q ∧ q < o + 11) zs.heap zs.heap [] := va_S.rf
  obtain ⟨⟨hoo, hosz, hLH⟩, σ, φ, ρ, hX, hF, hRF, hRX, hWB, hWN, hAP⟩ := id hCW
  obtain ⟨⟨hT1, hT2⟩, ⟨hP1, hP2⟩, ⟨hF1, hF2⟩, ⟨hN1, hN2⟩, ⟨hR1, hR2⟩, ⟨hL1, hL2, hL3, hL4⟩, hRR⟩ := id hRX
  obtain ⟨h16, -⟩ := id hb0
  obtain ⟨h18, -⟩ := id hn0
  obtain ⟨h17, -⟩ := id hif
  obtain ⟨h22, -⟩ := id hit
  obtain ⟨h19, -⟩ := id hl0
  obtain ⟨h20, -⟩ := id hr0
  have hNB : FB G μ φ zs.heap := ⟨hL1, hL2, hL3, fun k hk8 => by
    obtain ⟨-, β, hB, hBG, -⟩ := hWB _ (hl0.2 k hk8).1
    exact ⟨_, β, hL4 k hk8, hB, hBG⟩⟩
  refine lv_aload_n hx hb dX6_leak_0 rfl (lv_at hl 0 rfl) ?_
  refine kg (C := RX6) (T := TX6) (N := 12) (ci := 4) (k := 10) (v := .ref (o + 6)) S hK rfl inX6 (by decide) q_134 dX6_leak_1 hX rfl rfl ?_
  refine crV (rest := []) S hK (c_X2_firstLeak l G (o + 6) φ μ hb0 hl0) cw_X6_241 rfl ⟨Nat.le_of_ble_eq_true rfl, Nat.le_of_ble_eq_true rfl⟩ ⟨Nat.le_of_ble_eq_true rfl, Nat.le_of_ble_eq_true rfl⟩ (bk.recv hK hF rfl rfl) hl.1 rfl (Nat.le_of_ble_eq_true rfl) dX6_leak_4 ⟨hF, hNB⟩ ?_
  have hr : (leak_M μ, μ) = ((leak_M μ), μ) := rfl
  refine w_top (v' := .int (leak_M μ)) (congrArg (fun z => Value.int z) (congrArg Prod.fst hr).symm) ?_
  have hcw := CW_r (G := G) (o := o) (om := om) hr (CW_x hCW hS (fun q h => by first | exact Or.inl h | omega) hX hF hRF (hRX) (KP_r μ))
  exact hE _ _ _ _ _ _ (kr_i dX6_leak_7) hS (by decide) (by decide) hcw

set_option maxHeartbeats 1000000 in
set_option maxRecDepth 100000 in
theorem c_X6_meets (l : Launch) (G : Gt) (o : Nat) (om : Nat) (μ : Sx) (pa : Nat → Nat) (na : Nat → Nat) (k : Int32) (f : Int32) (hb0 : MIb μ) (hn0 : MIn μ) (hif : MIf μ) (hit : MIt μ) (hl0 : MIl μ) (hr0 : MIr μ) : Ct l G yX6_meets cX6_meets 3 ((some .int)) 4 0 0 [.ref o, .int k, .int f] (fun H => CWx G o om μ pa na H) (some (.int ((meets_M μ k f).1))) (fun H => CW G o om (meets_M μ k f).2 H) (fun q => o ≤ q ∧ q < o + 11) := by
  refine ct_entry [(0, .ref o), (1, .int k), (2, .int f)] (by decide) (Nat.le_of_ble_eq_true rfl) rfl ?_
  intro zp ze zs zm za zb zt zc Q S hK hPre hin hE ls hl
  have hx := S.1
  have hb := S.2.1
  have hCW := hPre
  have hS : va_S (fun q => o ≤ q ∧ q < o + 11) zs.heap zs.heap [] := va_S.rf
  obtain ⟨⟨hoo, hosz, hLH⟩, σ, φ, ρ, hX, hF, hRF, hRX, hWB, hWN, hAP⟩ := id hCW
  obtain ⟨⟨hT1, hT2⟩, ⟨hP1, hP2⟩, ⟨hF1, hF2⟩, ⟨hN1, hN2⟩, ⟨hR1, hR2⟩, ⟨hL1, hL2, hL3, hL4⟩, hRR⟩ := id hRX
  obtain ⟨h16, -⟩ := id hb0
  obtain ⟨h18, -⟩ := id hn0
  obtain ⟨h17, -⟩ := id hif
  obtain ⟨h22, -⟩ := id hit
  obtain ⟨h19, -⟩ := id hl0
  obtain ⟨h20, -⟩ := id hr0
  have hNB : FB G μ φ zs.heap := ⟨hL1, hL2, hL3, fun k hk8 => by
    obtain ⟨-, β, hB, hBG, -⟩ := hWB _ (hl0.2 k hk8).1
    exact ⟨_, β, hL4 k hk8, hB, hBG⟩⟩
  refine lv_aload_n hx hb dX6_meets_0 rfl (lv_at hl 0 rfl) ?_
  refine kg (C := RX6) (T := TX6) (N := 12) (ci := 4) (k := 10) (v := .ref (o + 6)) S hK rfl inX6 (by decide) q_134 dX6_meets_1 hX rfl rfl ?_
  refine lv_iload_n hx hb dX6_meets_4 rfl (lv_at hl 1 rfl) ?_
  refine lv_iload_n hx hb dX6_meets_5 rfl (lv_at hl 2 rfl) ?_
  refine crV (rest := []) S hK (c_X2_hasFace l G (o + 6) φ μ k f (by first | assumption | omega | decide) (by first | assumption | omega | decide)) cw_X6_236 rfl ⟨Nat.le_of_ble_eq_true rfl, Nat.le_of_ble_eq_true rfl⟩ ⟨Nat.le_of_ble_eq_true rfl, Nat.le_of_ble_eq_true rfl⟩ (bk.recv hK hF rfl rfl) hl.1 rfl (Nat.le_of_ble_eq_true rfl) dX6_meets_6 ⟨hF, hNB⟩ ?_
  refine z_if_ne (tgt := 18) hx hb dX6_meets_9 (by decide) (fun c_9 => ?_) (fun c_9 => ?_)
  ·
    have hk0 : inI k (μ.1 19) = true := by
      cases hz : inI k (μ.1 19)
      · unfold fcI at c_9
        rw [hz, if_neg (by decide)] at c_9
        exact absurd (inI_t c_9).2 (Nat.not_lt_zero _)
      · rfl
    obtain ⟨vk, hvk, rfl⟩ := inI_x hk0
    rw [fcI_n hvk h19] at c_9
    obtain ⟨vf, hvf, rfl⟩ := inI_x c_9
    have hc1 := cx_n (j := vk) (by omega)
    have hfo := fcL_5 hb0 hl0 hvk
    have hc2 := cx_n (j := vf) (by omega)
    refine lv_aload_n hx hb dX6_meets_18 rfl (lv_at hl 0 rfl) ?_
    refine kg (C := RX6) (T := TX6) (N := 12) (ci := 4) (k := 10) (v := .ref (o + 6)) S hK rfl inX6 (by decide) q_134 dX6_meets_19 hX rfl rfl ?_
    refine lv_iload_n hx hb dX6_meets_22 rfl (lv_at hl 1 rfl) ?_
    refine lv_iload_n hx hb dX6_meets_23 rfl (lv_at hl 2 rfl) ?_
    refine lv_iconst (v := nI 0) hx hb dX6_meets_24 (by decide) ?_
    refine crV (rest := []) S hK (c_X2_metBy l G (o + 6) φ μ vk vf 0 (by first | assumption | omega | decide) (by first | assumption | omega | decide) hvk hvf (by first | assumption | omega | decide)) cw_X6_238 rfl ⟨Nat.le_of_ble_eq_true rfl, Nat.le_of_ble_eq_true rfl⟩ ⟨Nat.le_of_ble_eq_true rfl, Nat.le_of_ble_eq_true rfl⟩ (bk.recv hK hF rfl rfl) hl.1 rfl (Nat.le_of_ble_eq_true rfl) dX6_meets_25 ⟨hF, hNB⟩ ?_
    have hr : meets_M μ (nI vk) (nI vf) = ((metM μ vk vf 0), μ) := by unfold meets_M; rw [hk0, hc1, c_9, hc2] <;> rfl
    refine w_top (v' := .int ((meets_M μ (nI vk) (nI vf)).1)) (congrArg (fun z => Value.int z) (congrArg Prod.fst hr).symm) ?_
    have hcw := CW_r (G := G) (o := o) (om := om) hr (CW_x hCW hS (fun q h => by first | exact Or.inl h | omega) hX hF hRF (hRX) (KP_r μ))
    exact hE _ _ _ _ _ _ (kr_i dX6_meets_28) hS (by decide) (by decide) hcw
  ·
    refine lv_aload_n hx hb dX6_meets_12 rfl (lv_at hl 0 rfl) ?_
    refine lv_iconst (v := (-1)) hx hb dX6_meets_13 (by decide) ?_
    refine ctV (rest := []) S hK (c_X6_refuse l G o σ ρ (-1) 1 rfl (by decide)) cw_X6_42 rfl ⟨Nat.le_of_ble_eq_true rfl, Nat.le_of_ble_eq_true rfl⟩ ⟨Nat.le_of_ble_eq_true rfl, Nat.le_of_ble_eq_true rfl⟩ (bk.recv hK hX rfl rfl) hl.1 rfl (Nat.le_of_ble_eq_true rfl) dX6_meets_14 ⟨hX, hRF⟩ hS (fun _ h => by first | exact h | omega) (fun H locs hPost hz hk hS => ?_)
    obtain ⟨hX, hRF⟩ := hPost
    replace hF := hF.over hk (fun q h1 h2 => by have h3 : q < o + 6 + 4 := h2; intro hA1; omega)
    have hr : meets_M μ k f = ((-1), rfM μ 1) := by
      unfold meets_M
      cases hz : inI k (μ.1 19)
      · rfl
      · obtain ⟨vk, hvk, rfl⟩ := inI_x hz
        rw [fcI_n hvk h19] at c_9
        rw [cx_n (j := vk) (by omega), c_9] <;> rfl
    refine w_top (v' := .int ((meets_M μ k f).1)) (congrArg (fun z => Value.int z) (congrArg Prod.fst hr).symm) ?_
    have hcw := CW_r (G := G) (o := o) (om := om) hr (CW_x hCW hS (fun q h => by first | exact Or.inl h | omega) hX hF hRF (RX_rf hRX) (KP_rf μ _))
    exact hE _ _ _ _ _ _ (kr_i dX6_meets_17) hS (by decide) (by decide) hcw

set_option maxHeartbeats 1000000 in
set_option maxRecDepth 100000 in
theorem c_X6_put (l : Launch) (G : Gt) (o : Nat) (om : Nat) (μ : Sx) (pa : Nat → Nat) (na : Nat → Nat) (xy : Int32) (hb0 : MIb μ) (hn0 : MIn μ) (hif : MIf μ) (hit : MIt μ) (hl0 : MIl μ) (hr0 : MIr μ) : Ct l G yX6_put cX6_put 2 ((some .int)) 1 0 0 [.ref o, .int xy] (fun H => CWx G o om μ pa na H) (some (.int ((put_M μ xy).1))) (fun H => CW G o om (put_M μ xy).2 H) (fun q => o ≤ q ∧ q < o + 11) := by
  refine ct_entry [(0, .ref o), (1, .int xy)] (by decide) (Nat.le_of_ble_eq_true rfl) rfl ?_
  intro zp ze zs zm za zb zt zc Q S hK hPre hin hE ls hl
  have hx := S.1
  have hb := S.2.1
  have hCW := hPre
  have hS : va_S (fun q => o ≤ q ∧ q < o + 11) zs.heap zs.heap [] := va_S.rf
  obtain ⟨⟨hoo, hosz, hLH⟩, σ, φ, ρ, hX, hF, hRF, hRX, hWB, hWN, hAP⟩ := id hCW
  obtain ⟨⟨hT1, hT2⟩, ⟨hP1, hP2⟩, ⟨hF1, hF2⟩, ⟨hN1, hN2⟩, ⟨hR1, hR2⟩, ⟨hL1, hL2, hL3, hL4⟩, hRR⟩ := id hRX
  obtain ⟨h16, -⟩ := id hb0
  obtain ⟨h18, -⟩ := id hn0
  obtain ⟨h17, -⟩ := id hif
  obtain ⟨h22, -⟩ := id hit
  obtain ⟨h19, -⟩ := id hl0
  obtain ⟨h20, -⟩ := id hr0
  refine lv_iload_n hx hb dX6_put_0 rfl (lv_at hl 1 rfl) ?_
  refine lv_if_ge (tgt := 11) hx hb dX6_put_1 (by decide) (fun c_1 => ?_) (fun c_1 => ?_)
  ·
    obtain ⟨j, hj, rfl⟩ := nI_of (Int32.not_lt.mpr c_1)
    have hcj := cx_n hj
    refine lv_iload_n hx hb dX6_put_11 rfl (lv_at hl 1 rfl) ?_
    refine lv_bipush (v := nI 99) hx hb dX6_put_12 (by decide) ?_
    refine n_icmp_gt (tgt := 25) hx hb dX6_put_14 (by decide) (by omega) (by decide) (fun c_14 => ?_) (fun c_14 => ?_)
    ·
      refine lv_aload_n hx hb dX6_put_25 rfl (lv_at hl 0 rfl) ?_
      refine lv_bipush (v := (-6)) hx hb dX6_put_26 (by decide) ?_
      refine ctV (rest := []) S hK (c_X6_refuse l G o σ ρ (-6) 6 rfl (by decide)) cw_X6_42 rfl ⟨Nat.le_of_ble_eq_true rfl, Nat.le_of_ble_eq_true rfl⟩ ⟨Nat.le_of_ble_eq_true rfl, Nat.le_of_ble_eq_true rfl⟩ (bk.recv hK hX rfl rfl) hl.1 rfl (Nat.le_of_ble_eq_true rfl) dX6_put_28 ⟨hX, hRF⟩ hS (fun _ h => by first | exact h | omega) (fun H locs hPost hz hk hS => ?_)
      obtain ⟨hX, hRF⟩ := hPost
      replace hF := hF.over hk (fun q h1 h2 => by have h3 : q < o + 6 + 4 := h2; intro hA1; omega)
      have hr : put_M μ (nI j) = ((-6), rfM μ 6) := by unfold put_M; rw [if_neg (show ¬ nI j < nI 0 from n9_lt hj), if_pos (nI_lt c_14 hj)]
      refine w_top (v' := .int ((put_M μ (nI j)).1)) (congrArg (fun z => Value.int z) (congrArg Prod.fst hr).symm) ?_
      have hcw := CW_r (G := G) (o := o) (om := om) hr (CW_x hCW hS (fun q h => by first | exact Or.inl h | omega) hX hF hRF (RX_rf hRX) (KP_rf μ _))
      exact hE _ _ _ _ _ _ (kr_i dX6_put_31) hS (by decide) (by decide) hcw
    ·
      refine lv_aload_n hx hb dX6_put_17 rfl (lv_at hl 0 rfl) ?_
      refine kg (C := RX6) (T := TX6) (N := 12) (ci := 4) (k := 9) (v := .int (nI (σ.1 9))) S hK rfl inX6 (by decide) q_133 dX6_put_18 hX rfl rfl ?_
      refine lv_iconst (v := nI 3) hx hb dX6_put_21 (by decide) ?_
      refine n_icmp_lt (tgt := 32) hx hb dX6_put_22 (by decide) (by omega) (by decide) (fun c_22 => ?_) (fun c_22 => ?_)
      ·
        refine lv_aload_n hx hb dX6_put_32 rfl (lv_at hl 0 rfl) ?_
        refine kg (C := RX6) (T := TX6) (N := 12) (ci := 4) (k := 8) (v := .ref (o + 5)) S hK rfl inX6 (by decide) q_132 dX6_put_33 hX rfl rfl ?_
        refine lv_aload_n hx hb dX6_put_36 rfl (lv_at hl 0 rfl) ?_
        refine kg (C := RX6) (T := TX6) (N := 12) (ci := 4) (k := 9) (v := .int (nI (σ.1 9))) S hK rfl inX6 (by decide) q_133 dX6_put_37 hX rfl rfl ?_
        refine lv_iload_n hx hb dX6_put_40 rfl (lv_at hl 1 rfl) ?_
        refine kis S hK dX6_put_41 5 hX rfl (by decide) rfl (by omega) rfl (L1 := xL G o (uA σ 8 (σ.1 9) j)) rfl hS (by first | exact ⟨by omega, by omega⟩ | omega) (fun H locs hX hS hz2 hk => ?_)
        replace hF := hF.kept (fun q h1 h2 => hk q (by have h3 : q < o + 6 + 4 := h2; omega))
        replace hRF := hRF.kept (fun q h1 h2 => hk q (by have h3 : q < o + 10 + 1 := h2; omega))
        refine lv_aload_n hx hb dX6_put_42 rfl (lv_at hl 0 rfl) ?_
        refine lv_dup hx hb dX6_put_43 rfl ?_
        refine kg (C := RX6) (T := TX6) (N := 12) (ci := 4) (k := 9) (v := .int (nI (σ.1 9))) S hK rfl inX6 (by decide) q_133 dX6_put_44 hX rfl rfl ?_
        refine lv_iconst (v := nI 1) hx hb dX6_put_47 (by decide) ?_
        refine n_iadd hx hb dX6_put_48 ?_
        refine kp (C := RX6) (T := TX6) (N := 12) (ci := 4) (k := 9) (ty := .int) tyX6 tyX6_ok nmX6 S hK rfl inX6 (by decide) q_133 rfl dX6_put_49 rfl rfl rfl hX rfl (Nat.le_of_ble_eq_true rfl) (L1 := xL G o (uS (uA σ 8 (σ.1 9) j) 9 ((σ.1 9) + 1))) rfl hS (by first | exact ⟨by omega, by omega⟩ | omega) (fun H locs hX hS hz2 hk => ?_)
        replace hF := hF.kept (fun q h1 h2 => hk q (by have h3 : q < o + 6 + 4 := h2; omega))
        replace hRF := hRF.kept (fun q h1 h2 => hk q (by have h3 : q < o + 10 + 1 := h2; omega))
        refine lv_aload_n hx hb dX6_put_52 rfl (lv_at hl 0 rfl) ?_
        refine kg (C := RX6) (T := TX6) (N := 12) (ci := 4) (k := 9) (v := .int (nI ((σ.1 9) + 1))) S hK rfl inX6 (by decide) q_133 dX6_put_53 hX rfl rfl ?_
        have hr : put_M μ (nI j) = ((nI ((σ.1 9) + 1)), uS (uA μ 15 (μ.1 20) (cx (nI j))) 20 (μ.1 20 + 1)) := by unfold put_M; rw [if_neg (show ¬ nI j < nI 0 from n9_lt hj), if_neg (fun q => absurd ((nI_ltI (by omega) hj).mp q) (by omega)), if_neg (by omega), hR1]
        refine w_top (v' := .int ((put_M μ (nI j)).1)) (congrArg (fun z => Value.int z) (congrArg Prod.fst hr).symm) ?_
        have hcw := CW_r (G := G) (o := o) (om := om) hr (CW_x hCW hS (fun q h => by first | exact Or.inl h | omega) hX hF hRF (⟨⟨hT1, hT2⟩, ⟨hP1, hP2⟩, FX_c ⟨hF1, hF2⟩ rfl rfl rfl rfl rfl, ⟨hN1, hN2⟩, ⟨by show σ.1 9 + 1 = μ.1 20 + 1; rw [hR1], by show uN (σ.2.1 8) (σ.1 9) j = uN (μ.2.1 15) (μ.1 20) (cx (nI j)); rw [hR1, hR2, hcj]⟩, ⟨hL1, hL2, hL3, hL4⟩, hRR⟩) (⟨⟨rfl, rfl⟩, ⟨rfl, rfl, rfl, rfl⟩, rfl, rfl, rfl, rfl, rfl⟩))
        exact hE _ _ _ _ _ _ (kr_i dX6_put_56) hS (by decide) (by decide) hcw
      ·
        refine lv_aload_n hx hb dX6_put_25 rfl (lv_at hl 0 rfl) ?_
        refine lv_bipush (v := (-6)) hx hb dX6_put_26 (by decide) ?_
        refine ctV (rest := []) S hK (c_X6_refuse l G o σ ρ (-6) 6 rfl (by decide)) cw_X6_42 rfl ⟨Nat.le_of_ble_eq_true rfl, Nat.le_of_ble_eq_true rfl⟩ ⟨Nat.le_of_ble_eq_true rfl, Nat.le_of_ble_eq_true rfl⟩ (bk.recv hK hX rfl rfl) hl.1 rfl (Nat.le_of_ble_eq_true rfl) dX6_put_28 ⟨hX, hRF⟩ hS (fun _ h => by first | exact h | omega) (fun H locs hPost hz hk hS => ?_)
        obtain ⟨hX, hRF⟩ := hPost
        replace hF := hF.over hk (fun q h1 h2 => by have h3 : q < o + 6 + 4 := h2; intro hA1; omega)
        have hr : put_M μ (nI j) = ((-6), rfM μ 6) := by unfold put_M; rw [if_neg (show ¬ nI j < nI 0 from n9_lt hj), if_neg (fun q => absurd ((nI_ltI (by omega) hj).mp q) (by omega)), if_pos (by omega)]
        refine w_top (v' := .int ((put_M μ (nI j)).1)) (congrArg (fun z => Value.int z) (congrArg Prod.fst hr).symm) ?_
        have hcw := CW_r (G := G) (o := o) (om := om) hr (CW_x hCW hS (fun q h => by first | exact Or.inl h | omega) hX hF hRF (RX_rf hRX) (KP_rf μ _))
        exact hE _ _ _ _ _ _ (kr_i dX6_put_31) hS (by decide) (by decide) hcw
  ·
    refine lv_aload_n hx hb dX6_put_4 rfl (lv_at hl 0 rfl) ?_
    refine lv_bipush (v := (-4)) hx hb dX6_put_5 (by decide) ?_
    refine ctV (rest := []) S hK (c_X6_refuse l G o σ ρ (-4) 4 rfl (by decide)) cw_X6_42 rfl ⟨Nat.le_of_ble_eq_true rfl, Nat.le_of_ble_eq_true rfl⟩ ⟨Nat.le_of_ble_eq_true rfl, Nat.le_of_ble_eq_true rfl⟩ (bk.recv hK hX rfl rfl) hl.1 rfl (Nat.le_of_ble_eq_true rfl) dX6_put_7 ⟨hX, hRF⟩ hS (fun _ h => by first | exact h | omega) (fun H locs hPost hz hk hS => ?_)
    obtain ⟨hX, hRF⟩ := hPost
    replace hF := hF.over hk (fun q h1 h2 => by have h3 : q < o + 6 + 4 := h2; intro hA1; omega)
    have hr : put_M μ xy = ((-4), rfM μ 4) := by unfold put_M; rw [if_pos (show xy < nI 0 from Int32.not_le.mp c_1)]
    refine w_top (v' := .int ((put_M μ xy).1)) (congrArg (fun z => Value.int z) (congrArg Prod.fst hr).symm) ?_
    have hcw := CW_r (G := G) (o := o) (om := om) hr (CW_x hCW hS (fun q h => by first | exact Or.inl h | omega) hX hF hRF (RX_rf hRX) (KP_rf μ _))
    exact hE _ _ _ _ _ _ (kr_i dX6_put_10) hS (by decide) (by decide) hcw
