
/-! walks: the class's calls on NETS -/

theorem free_i {i : Int32} (h : -1 ≤ i) (h2 : ¬ i = -1) : ¬ i < 0 := fun q => h2 (by
  have a := Int32.le_iff_toInt_le.mp h
  have b := Int32.lt_iff_toInt_lt.mp q
  have e : (0 : Int32).toInt = 0 := rfl
  have e1 : (-1 : Int32).toInt = -1 := rfl
  exact Int32.toInt_inj.mp (by omega))
def wr2 (c : Nat) (st : Int32) : Int32 := if 10 < c then -3 else if inI st (1 <<< c) then 0 else -1
theorem net4 (μ : Sx) (n st : Int32) : inI n (μ.1 18) = false ∨ ∃ vn, vn < μ.1 18 ∧ n = nI vn ∧ inI n (μ.1 18) = true ∧ (10 < fcM μ vn ∨ (¬ 10 < fcM μ vn ∧ inI st (1 <<< fcM μ vn) = false) ∨ (¬ 10 < fcM μ vn ∧ ∃ s, s < 1 <<< fcM μ vn ∧ st = nI s ∧ inI st (1 <<< fcM μ vn) = true)) := by
  cases hnn : inI n (μ.1 18)
  · exact Or.inl rfl
  · obtain ⟨vn, hvn, rfl⟩ := inI_x hnn
    refine Or.inr ⟨vn, hvn, rfl, rfl, ?_⟩
    by_cases h : 10 < fcM μ vn
    · exact Or.inl h
    · cases hs : inI st (1 <<< fcM μ vn)
      · exact Or.inr (Or.inl ⟨h, rfl⟩)
      · obtain ⟨s, hs2, e⟩ := inI_x hs
        exact Or.inr (Or.inr ⟨h, s, hs2, e, rfl⟩)
/-- the place of a FACE's truth -/
def slM (μ : Sx) (n k f : Nat) : Nat := match lkM μ n (10 * k + f) with
  | some l => l
  | none => 12 + (fcN (fM μ n) (zM μ n) k + fc1 (zM μ n) k f)
def QH (μ : Sx) : Prop := ∀ n, n < μ.1 18 → fcM μ n ≤ 10 → ∀ st, st < 1 <<< fcM μ n → sfH (fM μ n) (wyM μ n) (slM μ n) (μ.2.1 7 n) 0 (((1 <<< fcM μ n) - 1) <<< 12) (st <<< 12) = howN μ n st
def QA (μ : Sx) : Prop := ∀ n, n < μ.1 18 → fcM μ n ≤ 10 → ∀ st, st < 1 <<< fcM μ n → sfA (fM μ n) (wyM μ n) (slM μ n) (μ.2.1 7 n) 0 (((1 <<< fcM μ n) - 1) <<< 12) (st <<< 12) = letN μ n st
theorem slO_cg {g g' : Nat → Nat} : ∀ f, (∀ i, i < f → g i = g' i) → slO g f = slO g' f
  | 0, _ => rfl
  | f + 1, h => by unfold slO; rw [slO_cg f (fun i hi => h i (by omega)), h f (by omega)]
theorem bO_cg {g g' : Nat → Nat} {st : Nat} : ∀ f, (∀ i, i < f → g i = g' i) → bO g st f = bO g' st f
  | 0, _ => rfl
  | f + 1, h => by unfold bO; rw [bO_cg f (fun i hi => h i (by omega)), h f (by omega)]
theorem bZ_cg {g g' : Nat → Nat} {st : Nat} : ∀ f, (∀ i, i < f → g i = g' i) → bZ g st f = bZ g' st f
  | 0, _ => rfl
  | f + 1, h => by unfold bZ; rw [bZ_cg f (fun i hi => h i (by omega)), h f (by omega)]
theorem okS_cg {F : Nat → Nat} {Wy sl sl' : Nat → Nat → Nat} {k s kn va : Nat} (h : ∀ f, f < F k → sl k f = sl' k f) : okS F Wy sl k s kn va = okS F Wy sl' k s kn va := by
  unfold okS
  rw [bO_cg (F k) h, bZ_cg (F k) h, slO_cg (F k) h]
theorem acS_cg {a b : Nat → Nat → Nat} : ∀ n, (∀ s, s < n → ∀ x, a s x = b s x) → acS a n = acS b n
  | 0, _ => rfl
  | n + 1, h => by unfold acS; rw [acS_cg n (fun s hs => h s (by omega)), h n (by omega)]
theorem sfH_cg {F : Nat → Nat} {Wy sl sl' : Nat → Nat → Nat} {P : Nat} (h : ∀ k, k < P → ∀ f, f < F k → sl k f = sl' k f) : ∀ n k kn va, k + n = P → sfH F Wy sl n k kn va = sfH F Wy sl' n k kn va
  | 0, _, _, _, _ => rfl
  | n + 1, k, kn, va, e => by
    have hk := h k (by omega)
    unfold sfH
    rw [slO_cg (F k) hk]
    refine acS_cg _ (fun s _ x => ?_)
    rw [okS_cg hk, bO_cg (F k) hk, sfH_cg h n (k + 1) _ _ (by omega)]
theorem sfA_cg {F : Nat → Nat} {Wy sl sl' : Nat → Nat → Nat} {P : Nat} (h : ∀ k, k < P → ∀ f, f < F k → sl k f = sl' k f) : ∀ n k kn va, k + n = P → sfA F Wy sl n k kn va = sfA F Wy sl' n k kn va
  | 0, _, _, _, _ => rfl
  | n + 1, k, kn, va, e => by
    have hk := h k (by omega)
    unfold sfA
    rw [slO_cg (F k) hk]
    refine congrArg Option.isSome (fnd_congr _ _ (fun s _ _ => ?_))
    rw [okS_cg hk, bO_cg (F k) hk, sfA_cg h n (k + 1) _ _ (by omega)]
theorem slK_M {μ ν : Sx} {pa : Nat → Nat} {n : Nat} (h : NR μ pa n ν) (hb0 : MIb μ) (hn0 : MIn μ) (hn : n < μ.1 18) : ∀ k, k < μ.2.1 7 n → ∀ f, f < fM μ n k → slK ν (fM μ n) k f = slM μ n k f := by
  intro k hk f hf
  have h5 := fM_5 hb0 hn0 hn k hk
  have h8 := (hn0.2 n hn).1
  unfold slK slM
  rw [fcK_e h hb0 hn0 hn (show k ≤ μ.2.1 7 n by omega), h.2.2.2 k (by omega) f (by omega), fc1_cg (Z := zK ν) (Y := zM μ n) f (fun i hi => NR_z h (by omega) (by omega))]
  cases lkM μ n (10 * k + f) with
  | none => exact if_pos rfl
  | some l => exact if_neg (Nat.succ_ne_zero l)
theorem sfK_H {μ ν : Sx} {pa : Nat → Nat} {n st : Nat} (hQ : QH μ) (h : NR μ pa n ν) (hb0 : MIb μ) (hn0 : MIn μ) (hn : n < μ.1 18) (hc : ¬ 10 < fcM μ n) (hst : st < 1 <<< fcM μ n) : sfH (fM μ n) (wyM μ n) (slK ν (fM μ n)) (ν.1 1) 0 (((1 <<< fcN (fM μ n) (zK ν) (ν.1 1)) - 1) <<< 12) (st <<< 12) = howN μ n st := by
  rw [← hQ n hn (by omega) st hst, fcK_M h hb0 hn0 hn, h.1]
  exact sfH_cg (slK_M h hb0 hn0 hn) _ _ _ _ (Nat.zero_add _)
theorem sfK_A {μ ν : Sx} {pa : Nat → Nat} {n st : Nat} (hQ : QA μ) (h : NR μ pa n ν) (hb0 : MIb μ) (hn0 : MIn μ) (hn : n < μ.1 18) (hc : ¬ 10 < fcM μ n) (hst : st < 1 <<< fcM μ n) : sfA (fM μ n) (wyM μ n) (slK ν (fM μ n)) (ν.1 1) 0 (((1 <<< fcN (fM μ n) (zK ν) (ν.1 1)) - 1) <<< 12) (st <<< 12) = letN μ n st := by
  rw [← hQ n hn (by omega) st hst, fcK_M h hb0 hn0 hn, h.1]
  exact sfA_cg (slK_M h hb0 hn0 hn) _ _ _ _ (Nat.zero_add _)

set_option maxHeartbeats 1000000 in
set_option maxRecDepth 100000 in
theorem c_X6_piece (l : Launch) (G : Gt) (o : Nat) (om : Nat) (μ : Sx) (pa : Nat → Nat) (na : Nat → Nat) (n : Int32) (p : Int32) (hb0 : MIb μ) (hn0 : MIn μ) (hif : MIf μ) (hit : MIt μ) (hl0 : MIl μ) (hr0 : MIr μ) : Ct l G yX6_piece cX6_piece 5 ((some .int)) 1 0 0 [.ref o, .int n, .int p] (fun H => CWx G o om μ pa na H) (some (.int ((piece_M μ n p).1))) (fun H => CW G o om (piece_M μ n p).2 H) (fun q => (o ≤ q ∧ q < o + 11) ∨ (inI n (μ.1 18) = true ∧ na (cx n) ≤ q ∧ q < na (cx n) + 4)) := by
  refine ct_entry [(0, .ref o), (1, .int n), (2, .int p)] (by decide) (Nat.le_of_ble_eq_true rfl) rfl ?_
  intro zp ze zs zm za zb zt zc Q S hK hPre hin hE ls hl
  have hx := S.1
  have hb := S.2.1
  have hCW := hPre
  have hS : va_S (fun q => (o ≤ q ∧ q < o + 11) ∨ (inI n (μ.1 18) = true ∧ na (cx n) ≤ q ∧ q < na (cx n) + 4)) zs.heap zs.heap [] := va_S.rf
  obtain ⟨⟨hoo, hosz, hLH⟩, σ, φ, ρ, hX, hF, hRF, hRX, hWB, hWN, hAP⟩ := id hCW
  obtain ⟨⟨hT1, hT2⟩, ⟨hP1, hP2⟩, ⟨hF1, hF2⟩, ⟨hN1, hN2⟩, ⟨hR1, hR2⟩, ⟨hL1, hL2, hL3, hL4⟩, hRR⟩ := id hRX
  obtain ⟨h16, -⟩ := id hb0
  obtain ⟨h18, -⟩ := id hn0
  obtain ⟨h17, -⟩ := id hif
  obtain ⟨h22, -⟩ := id hit
  obtain ⟨h19, -⟩ := id hl0
  obtain ⟨h20, -⟩ := id hr0
  refine lv_aload_n hx hb dX6_piece_0 rfl (lv_at hl 0 rfl) ?_
  refine lv_iload_n hx hb dX6_piece_1 rfl (lv_at hl 1 rfl) ?_
  cases hnn : inI n (μ.1 18)
  ·
    refine crV (rest := []) S hK (c_X6_netAt_n l G o σ n (by omega) (by rw [hN1]; exact hnn)) cw_X6_189 rfl ⟨Nat.le_of_ble_eq_true rfl, Nat.le_of_ble_eq_true rfl⟩ ⟨Nat.le_of_ble_eq_true rfl, Nat.le_of_ble_eq_true rfl⟩ (bk.recv hK hX rfl rfl) hl.1 rfl (Nat.le_of_ble_eq_true rfl) dX6_piece_2 hX ?_
    refine lv_astore_nN (lv' := [(3, .null), (0, .ref o), (1, .int n), (2, .int p)]) hx hb dX6_piece_5 rfl hl (by decide) rfl (fun ls hl => ?_)
    refine lv_aload_n hx hb dX6_piece_6 rfl (lv_at hl 1 rfl) ?_
    refine lv_iload_n hx hb dX6_piece_7 rfl (lv_at hl 3 rfl) ?_
    cases hivp : inI p (μ.1 16)
    ·
      refine crV (rest := []) S hK (c_X6_partAt_n l G o σ p (by omega) (by rw [hP1]; exact hivp)) cw_X6_67 rfl ⟨Nat.le_of_ble_eq_true rfl, Nat.le_of_ble_eq_true rfl⟩ ⟨Nat.le_of_ble_eq_true rfl, Nat.le_of_ble_eq_true rfl⟩ (bk.recv hK hX rfl rfl) hl.1 rfl (Nat.le_of_ble_eq_true rfl) dX6_piece_8 hX ?_
      refine lv_astoreN (lv' := [(4, .null), (3, .null), (0, .ref o), (1, .int n), (2, .int p)]) hx hb dX6_piece_11 hl (by decide) rfl (fun ls hl => ?_)
      refine lv_aload_nN hx hb dX6_piece_13 rfl (lv_at hl 1 rfl) ?_
      refine lv_ifnullN (tgt := 22) hx hb dX6_piece_14 (by decide) ?_
      refine lv_aload_n hx hb dX6_piece_22 rfl (lv_at hl 2 rfl) ?_
      refine lv_iconst (v := (-1)) hx hb dX6_piece_23 (by decide) ?_
      refine ctV (rest := []) S hK (c_X6_refuse l G o σ ρ (-1) 1 rfl (by decide)) cw_X6_42 rfl ⟨Nat.le_of_ble_eq_true rfl, Nat.le_of_ble_eq_true rfl⟩ ⟨Nat.le_of_ble_eq_true rfl, Nat.le_of_ble_eq_true rfl⟩ (bk.recv hK hX rfl rfl) hl.1 rfl (Nat.le_of_ble_eq_true rfl) dX6_piece_24 ⟨hX, hRF⟩ hS (fun q h => Or.inl (by omega)) (fun H locs hPost hz hk hS => ?_)
      obtain ⟨hX, hRF⟩ := hPost
      replace hF := hF.over hk (fun q h1 h2 => by have h3 : q < o + 6 + 4 := h2; intro hA1; omega)
      have hr : piece_M μ n p = ((-1), rfM μ 1) := by unfold piece_M; rw [hnn] <;> rfl
      refine w_top (v' := .int ((piece_M μ n p).1)) (congrArg (fun z => Value.int z) (congrArg Prod.fst hr).symm) ?_
      have hcw := CW_r (G := G) (o := o) (om := om) hr (CW_x hCW hS (fun q h => Or.inl (h.elim id (fun z => absurd (hnn.symm.trans z.1) (by decide)))) hX hF hRF (RX_rf hRX) (KP_rf μ _))
      exact hE _ _ _ _ _ _ (kr_i dX6_piece_27) hS (by decide) (by decide) hcw
    ·
      obtain ⟨vp, hvvp, rfl⟩ := inI_x hivp
      have hcxvp := cx_n (j := vp) (by omega)
      obtain ⟨hpavp, β, hB, hBGvp, hBCvp⟩ := hWB vp hvvp
      have hBSvp := hb0.2 vp hvvp
      have hltvp := bk.lt (k := 3) hB (show 3 < 4 by decide)
      obtain ⟨⟨⟨ha1vp, ha2vp⟩, ⟨ha3vp, ha4vp⟩, ha5vp⟩, hbOvp, hbCvp, hbEvp, hbUvp⟩ := id hBSvp
      obtain ⟨hg0vp, hg1vp, hg2vp, hg3vp, hg4vp, hgFvp⟩ := id hBGvp
      obtain ⟨hc6vp, hc7vp, hc8vp⟩ := id hBCvp
      refine crV (rest := []) S hK (c_X6_partAt_y l G o σ vp (pa vp) (by omega) (by omega) (hP2 _ hvvp)) cw_X6_67 rfl ⟨Nat.le_of_ble_eq_true rfl, Nat.le_of_ble_eq_true rfl⟩ ⟨Nat.le_of_ble_eq_true rfl, Nat.le_of_ble_eq_true rfl⟩ (bk.recv hK hX rfl rfl) hl.1 rfl (Nat.le_of_ble_eq_true rfl) dX6_piece_8 hX ?_
      refine lv_astore (lv' := [(4, .ref (pa vp)), (3, .null), (0, .ref o), (1, .int n), (2, .int (nI vp))]) hx hb dX6_piece_11 hl (by decide) rfl (fun ls hl => ?_)
      refine lv_aload_nN hx hb dX6_piece_13 rfl (lv_at hl 1 rfl) ?_
      refine lv_ifnullN (tgt := 22) hx hb dX6_piece_14 (by decide) ?_
      refine lv_aload_n hx hb dX6_piece_22 rfl (lv_at hl 2 rfl) ?_
      refine lv_iconst (v := (-1)) hx hb dX6_piece_23 (by decide) ?_
      refine ctV (rest := []) S hK (c_X6_refuse l G o σ ρ (-1) 1 rfl (by decide)) cw_X6_42 rfl ⟨Nat.le_of_ble_eq_true rfl, Nat.le_of_ble_eq_true rfl⟩ ⟨Nat.le_of_ble_eq_true rfl, Nat.le_of_ble_eq_true rfl⟩ (bk.recv hK hX rfl rfl) hl.1 rfl (Nat.le_of_ble_eq_true rfl) dX6_piece_24 ⟨hX, hRF⟩ hS (fun q h => Or.inl (by omega)) (fun H locs hPost hz hk hS => ?_)
      obtain ⟨hX, hRF⟩ := hPost
      replace hF := hF.over hk (fun q h1 h2 => by have h3 : q < o + 6 + 4 := h2; intro hA1; omega)
      replace hB := hB.over hk (fun q h1 h2 => by have h3 : q < pa vp + 4 := h2; intro hA1; omega)
      have hr : piece_M μ n (nI vp) = ((-1), rfM μ 1) := by unfold piece_M; rw [hnn] <;> rfl
      refine w_top (v' := .int ((piece_M μ n (nI vp)).1)) (congrArg (fun z => Value.int z) (congrArg Prod.fst hr).symm) ?_
      have hcw := CW_r (G := G) (o := o) (om := om) hr (CW_x hCW hS (fun q h => Or.inl (h.elim id (fun z => absurd (hnn.symm.trans z.1) (by decide)))) hX hF hRF (RX_rf hRX) (KP_rf μ _))
      exact hE _ _ _ _ _ _ (kr_i dX6_piece_27) hS (by decide) (by decide) hcw
  ·
    obtain ⟨vn, hvn, rfl⟩ := inI_x hnn
    have hcxn := cx_n (j := vn) (by omega)
    obtain ⟨hna, ν, hN, hNR⟩ := hWN vn hvn
    obtain ⟨hm1, hm2, hm3, hm4⟩ := id (hn0.2 vn hvn)
    obtain ⟨hnr1, hnr2, hnr3, hnr4⟩ := id hNR
    have h12 := NR_12 hNR hm2
    have hltN := bk.lt (k := 3) hN (show 3 < 4 by decide)
    have hAw : ∀ q, ((o ≤ q ∧ q < o + 11) ∨ (inI (nI vn) (μ.1 18) = true ∧ na (cx (nI vn)) ≤ q ∧ q < na (cx (nI vn)) + 4)) → (o ≤ q ∧ q < o + 11) ∨ (na vn ≤ q ∧ q < na vn + 4) := fun q h => by
      rw [hcxn] at h
      exact h.imp id And.right
    have hAn : ∀ q, (na vn ≤ q ∧ q < na vn + 4) → ((o ≤ q ∧ q < o + 11) ∨ (inI (nI vn) (μ.1 18) = true ∧ na (cx (nI vn)) ≤ q ∧ q < na (cx (nI vn)) + 4)) := fun q h => Or.inr ⟨hnn, by rw [hcxn]; exact h⟩
    refine crV (rest := []) S hK (c_X6_netAt_y l G o σ vn (na vn) (by omega) (by omega) (hN2 _ hvn)) cw_X6_189 rfl ⟨Nat.le_of_ble_eq_true rfl, Nat.le_of_ble_eq_true rfl⟩ ⟨Nat.le_of_ble_eq_true rfl, Nat.le_of_ble_eq_true rfl⟩ (bk.recv hK hX rfl rfl) hl.1 rfl (Nat.le_of_ble_eq_true rfl) dX6_piece_2 hX ?_
    refine lv_astore_n (lv' := [(3, .ref (na vn)), (0, .ref o), (1, .int (nI vn)), (2, .int p)]) hx hb dX6_piece_5 rfl hl (by decide) rfl (fun ls hl => ?_)
    refine lv_aload_n hx hb dX6_piece_6 rfl (lv_at hl 1 rfl) ?_
    refine lv_iload_n hx hb dX6_piece_7 rfl (lv_at hl 3 rfl) ?_
    cases hivp : inI p (μ.1 16)
    ·
      refine crV (rest := []) S hK (c_X6_partAt_n l G o σ p (by omega) (by rw [hP1]; exact hivp)) cw_X6_67 rfl ⟨Nat.le_of_ble_eq_true rfl, Nat.le_of_ble_eq_true rfl⟩ ⟨Nat.le_of_ble_eq_true rfl, Nat.le_of_ble_eq_true rfl⟩ (bk.recv hK hX rfl rfl) hl.1 rfl (Nat.le_of_ble_eq_true rfl) dX6_piece_8 hX ?_
      refine lv_astoreN (lv' := [(4, .null), (3, .ref (na vn)), (0, .ref o), (1, .int (nI vn)), (2, .int p)]) hx hb dX6_piece_11 hl (by decide) rfl (fun ls hl => ?_)
      refine lv_aload_n hx hb dX6_piece_13 rfl (lv_at hl 1 rfl) ?_
      refine lv_ifnull hx hb dX6_piece_14 ?_
      refine lv_aloadN hx hb dX6_piece_17 (lv_at hl 0 rfl) ?_
      refine lv_ifnonnullN hx hb dX6_piece_19 ?_
      refine lv_aload_n hx hb dX6_piece_22 rfl (lv_at hl 2 rfl) ?_
      refine lv_iconst (v := (-1)) hx hb dX6_piece_23 (by decide) ?_
      refine ctV (rest := []) S hK (c_X6_refuse l G o σ ρ (-1) 1 rfl (by decide)) cw_X6_42 rfl ⟨Nat.le_of_ble_eq_true rfl, Nat.le_of_ble_eq_true rfl⟩ ⟨Nat.le_of_ble_eq_true rfl, Nat.le_of_ble_eq_true rfl⟩ (bk.recv hK hX rfl rfl) hl.1 rfl (Nat.le_of_ble_eq_true rfl) dX6_piece_24 ⟨hX, hRF⟩ hS (fun q h => Or.inl (by omega)) (fun H locs hPost hz hk hS => ?_)
      obtain ⟨hX, hRF⟩ := hPost
      replace hF := hF.over hk (fun q h1 h2 => by have h3 : q < o + 6 + 4 := h2; intro hA1; omega)
      replace hN := hN.over hk (fun q h1 h2 => by have h3 : q < na vn + 4 := h2; intro hA1; omega)
      have hr : piece_M μ (nI vn) p = ((-1), rfM μ 1) := by unfold piece_M; rw [hnn, hivp] <;> rfl
      refine w_top (v' := .int ((piece_M μ (nI vn) p).1)) (congrArg (fun z => Value.int z) (congrArg Prod.fst hr).symm) ?_
      have hcw := CW_r (G := G) (o := o) (om := om) hr (CW_m hCW hn0 hS hAw hX hF hRF (RX_rf hRX) hvn rfl hN hNR (NE_k (KP_rf μ _) vn))
      exact hE _ _ _ _ _ _ (kr_i dX6_piece_27) hS (by decide) (by decide) hcw
    ·
      obtain ⟨vp, hvvp, rfl⟩ := inI_x hivp
      have hcxvp := cx_n (j := vp) (by omega)
      obtain ⟨hpavp, β, hB, hBGvp, hBCvp⟩ := hWB vp hvvp
      have hBSvp := hb0.2 vp hvvp
      have hltvp := bk.lt (k := 3) hB (show 3 < 4 by decide)
      obtain ⟨⟨⟨ha1vp, ha2vp⟩, ⟨ha3vp, ha4vp⟩, ha5vp⟩, hbOvp, hbCvp, hbEvp, hbUvp⟩ := id hBSvp
      obtain ⟨hg0vp, hg1vp, hg2vp, hg3vp, hg4vp, hgFvp⟩ := id hBGvp
      obtain ⟨hc6vp, hc7vp, hc8vp⟩ := id hBCvp
      refine crV (rest := []) S hK (c_X6_partAt_y l G o σ vp (pa vp) (by omega) (by omega) (hP2 _ hvvp)) cw_X6_67 rfl ⟨Nat.le_of_ble_eq_true rfl, Nat.le_of_ble_eq_true rfl⟩ ⟨Nat.le_of_ble_eq_true rfl, Nat.le_of_ble_eq_true rfl⟩ (bk.recv hK hX rfl rfl) hl.1 rfl (Nat.le_of_ble_eq_true rfl) dX6_piece_8 hX ?_
      refine lv_astore (lv' := [(4, .ref (pa vp)), (3, .ref (na vn)), (0, .ref o), (1, .int (nI vn)), (2, .int (nI vp))]) hx hb dX6_piece_11 hl (by decide) rfl (fun ls hl => ?_)
      refine lv_aload_n hx hb dX6_piece_13 rfl (lv_at hl 1 rfl) ?_
      refine lv_ifnull hx hb dX6_piece_14 ?_
      refine lv_aload hx hb dX6_piece_17 (lv_at hl 0 rfl) ?_
      refine lv_ifnonnull (tgt := 28) hx hb dX6_piece_19 (by decide) ?_
      refine lv_aload_n hx hb dX6_piece_28 rfl (lv_at hl 1 rfl) ?_
      refine kg (C := RX4) (T := TX4) (N := 5) (ci := 3) (k := 1) (v := .int (nI (ν.1 1))) S hK rfl inX4 (by decide) q_509 dX6_piece_29 hN rfl rfl ?_
      refine lv_bipush (v := nI 8) hx hb dX6_piece_32 (by decide) ?_
      refine n_icmp_lt (tgt := 44) hx hb dX6_piece_34 (by decide) (by omega) (by decide) (fun c_34 => ?_) (fun c_34 => ?_)
      ·
        refine lv_aload_n hx hb dX6_piece_44 rfl (lv_at hl 1 rfl) ?_
        refine lv_aload hx hb dX6_piece_45 (lv_at hl 0 rfl) ?_
        refine ctV (rest := []) S hK (c_X4_addPiece l G (na vn) ν (pa vp) β (by omega) (hAP.2 vn vp hvn hvvp).symm) cw_X6_196 rfl ⟨Nat.le_of_ble_eq_true rfl, Nat.le_of_ble_eq_true rfl⟩ ⟨Nat.le_of_ble_eq_true rfl, Nat.le_of_ble_eq_true rfl⟩ (bk.recv hK hN rfl rfl) hl.1 rfl (Nat.le_of_ble_eq_true rfl) dX6_piece_47 ⟨hN, hB⟩ hS (fun q h => hAn q h) (fun H locs hPost hz hk hS => ?_)
        obtain ⟨hN, hB⟩ := hPost
        replace hX := hX.over hk (fun q h1 h2 => by have h3 : q < o + 6 := h2; intro hA1; omega)
        replace hF := hF.over hk (fun q h1 h2 => by have h3 : q < o + 6 + 4 := h2; intro hA1; omega)
        replace hRF := hRF.over hk (fun q h1 h2 => by have h3 : q < o + 10 + 1 := h2; intro hA1; omega)
        have hr : piece_M μ (nI vn) (nI vp) = ((nI (ν.1 1)), uA (uA μ 9 (8 * vn + μ.2.1 7 vn) vp) 7 vn (μ.2.1 7 vn + 1)) := by unfold piece_M; rw [hnn, hivp, if_pos (show (true && true) = true from rfl), hcxn, hcxvp, if_neg (show ¬ μ.2.1 7 vn = 8 by omega), hnr1]
        refine w_top (v' := .int ((piece_M μ (nI vn) (nI vp)).1)) (congrArg (fun z => Value.int z) (congrArg Prod.fst hr).symm) ?_
        have hcw := CW_r (G := G) (o := o) (om := om) hr (CW_m hCW hn0 hS hAw hX hF hRF (RX_pc hRX _ _ _) hvn rfl hN (NR_pc hNR rfl) (NE_pc (by omega)))
        exact hE _ _ _ _ _ _ (kr_i dX6_piece_50) hS (by decide) (by decide) hcw
      ·
        refine lv_aload_n hx hb dX6_piece_37 rfl (lv_at hl 2 rfl) ?_
        refine lv_bipush (v := (-6)) hx hb dX6_piece_38 (by decide) ?_
        refine ctV (rest := []) S hK (c_X6_refuse l G o σ ρ (-6) 6 rfl (by decide)) cw_X6_42 rfl ⟨Nat.le_of_ble_eq_true rfl, Nat.le_of_ble_eq_true rfl⟩ ⟨Nat.le_of_ble_eq_true rfl, Nat.le_of_ble_eq_true rfl⟩ (bk.recv hK hX rfl rfl) hl.1 rfl (Nat.le_of_ble_eq_true rfl) dX6_piece_40 ⟨hX, hRF⟩ hS (fun q h => Or.inl (by omega)) (fun H locs hPost hz hk hS => ?_)
        obtain ⟨hX, hRF⟩ := hPost
        replace hF := hF.over hk (fun q h1 h2 => by have h3 : q < o + 6 + 4 := h2; intro hA1; omega)
        replace hN := hN.over hk (fun q h1 h2 => by have h3 : q < na vn + 4 := h2; intro hA1; omega)
        replace hB := hB.over hk (fun q h1 h2 => by have h3 : q < pa vp + 4 := h2; intro hA1; omega)
        have hr : piece_M μ (nI vn) (nI vp) = ((-6), rfM μ 6) := by unfold piece_M; rw [hnn, hivp, if_pos (show (true && true) = true from rfl), hcxn, if_pos (show μ.2.1 7 vn = 8 by omega)]
        refine w_top (v' := .int ((piece_M μ (nI vn) (nI vp)).1)) (congrArg (fun z => Value.int z) (congrArg Prod.fst hr).symm) ?_
        have hcw := CW_r (G := G) (o := o) (om := om) hr (CW_m hCW hn0 hS hAw hX hF hRF (RX_rf hRX) hvn rfl hN hNR (NE_k (KP_rf μ _) vn))
        exact hE _ _ _ _ _ _ (kr_i dX6_piece_43) hS (by decide) (by decide) hcw

set_option maxHeartbeats 1000000 in
set_option maxRecDepth 100000 in
theorem c_X6_link (l : Launch) (G : Gt) (o : Nat) (om : Nat) (μ : Sx) (pa : Nat → Nat) (na : Nat → Nat) (n : Int32) (a : Int32) (b : Int32) (hb0 : MIb μ) (hn0 : MIn μ) (hif : MIf μ) (hit : MIt μ) (hl0 : MIl μ) (hr0 : MIr μ) : Ct l G yX6_link cX6_link 5 ((some .int)) 3 0 0 [.ref o, .int n, .int a, .int b] (fun H => CWx G o om μ pa na H) (some (.int ((link_M μ n a b).1))) (fun H => CW G o om (link_M μ n a b).2 H) (fun q => (o ≤ q ∧ q < o + 11) ∨ (inI n (μ.1 18) = true ∧ na (cx n) ≤ q ∧ q < na (cx n) + 4)) := by
  refine ct_entry [(0, .ref o), (1, .int n), (2, .int a), (3, .int b)] (by decide) (Nat.le_of_ble_eq_true rfl) rfl ?_
  intro zp ze zs zm za zb zt zc Q S hK hPre hin hE ls hl
  have hx := S.1
  have hb := S.2.1
  have hCW := hPre
  have hS : va_S (fun q => (o ≤ q ∧ q < o + 11) ∨ (inI n (μ.1 18) = true ∧ na (cx n) ≤ q ∧ q < na (cx n) + 4)) zs.heap zs.heap [] := va_S.rf
  obtain ⟨⟨hoo, hosz, hLH⟩, σ, φ, ρ, hX, hF, hRF, hRX, hWB, hWN, hAP⟩ := id hCW
  obtain ⟨⟨hT1, hT2⟩, ⟨hP1, hP2⟩, ⟨hF1, hF2⟩, ⟨hN1, hN2⟩, ⟨hR1, hR2⟩, ⟨hL1, hL2, hL3, hL4⟩, hRR⟩ := id hRX
  obtain ⟨h16, -⟩ := id hb0
  obtain ⟨h18, -⟩ := id hn0
  obtain ⟨h17, -⟩ := id hif
  obtain ⟨h22, -⟩ := id hit
  obtain ⟨h19, -⟩ := id hl0
  obtain ⟨h20, -⟩ := id hr0
  refine lv_aload_n hx hb dX6_link_0 rfl (lv_at hl 0 rfl) ?_
  refine lv_iload_n hx hb dX6_link_1 rfl (lv_at hl 1 rfl) ?_
  cases hnn : inI n (μ.1 18)
  ·
    refine crV (rest := []) S hK (c_X6_netAt_n l G o σ n (by omega) (by rw [hN1]; exact hnn)) cw_X6_189 rfl ⟨Nat.le_of_ble_eq_true rfl, Nat.le_of_ble_eq_true rfl⟩ ⟨Nat.le_of_ble_eq_true rfl, Nat.le_of_ble_eq_true rfl⟩ (bk.recv hK hX rfl rfl) hl.1 rfl (Nat.le_of_ble_eq_true rfl) dX6_link_2 hX ?_
    refine lv_astoreN (lv' := [(4, .null), (0, .ref o), (1, .int n), (2, .int a), (3, .int b)]) hx hb dX6_link_5 hl (by decide) rfl (fun ls hl => ?_)
    refine lv_aloadN hx hb dX6_link_7 (lv_at hl 0 rfl) ?_
    refine lv_ifnullN (tgt := 30) hx hb dX6_link_9 (by decide) ?_
    refine lv_aload_n hx hb dX6_link_30 rfl (lv_at hl 1 rfl) ?_
    refine lv_iconst (v := (-1)) hx hb dX6_link_31 (by decide) ?_
    refine ctV (rest := []) S hK (c_X6_refuse l G o σ ρ (-1) 1 rfl (by decide)) cw_X6_42 rfl ⟨Nat.le_of_ble_eq_true rfl, Nat.le_of_ble_eq_true rfl⟩ ⟨Nat.le_of_ble_eq_true rfl, Nat.le_of_ble_eq_true rfl⟩ (bk.recv hK hX rfl rfl) hl.1 rfl (Nat.le_of_ble_eq_true rfl) dX6_link_32 ⟨hX, hRF⟩ hS (fun q h => Or.inl (by omega)) (fun H locs hPost hz hk hS => ?_)
    obtain ⟨hX, hRF⟩ := hPost
    replace hF := hF.over hk (fun q h1 h2 => by have h3 : q < o + 6 + 4 := h2; intro hA1; omega)
    have hr : link_M μ n a b = ((-1), rfM μ 1) := by unfold link_M; rw [hnn] <;> rfl
    refine w_top (v' := .int ((link_M μ n a b).1)) (congrArg (fun z => Value.int z) (congrArg Prod.fst hr).symm) ?_
    have hcw := CW_r (G := G) (o := o) (om := om) hr (CW_x hCW hS (fun q h => Or.inl (h.elim id (fun z => absurd (hnn.symm.trans z.1) (by decide)))) hX hF hRF (RX_rf hRX) (KP_rf μ _))
    exact hE _ _ _ _ _ _ (kr_i dX6_link_35) hS (by decide) (by decide) hcw
  ·
    obtain ⟨vn, hvn, rfl⟩ := inI_x hnn
    have hcxn := cx_n (j := vn) (by omega)
    obtain ⟨hna, ν, hN, hNR⟩ := hWN vn hvn
    obtain ⟨hm1, hm2, hm3, hm4⟩ := id (hn0.2 vn hvn)
    obtain ⟨hnr1, hnr2, hnr3, hnr4⟩ := id hNR
    have h12 := NR_12 hNR hm2
    have hltN := bk.lt (k := 3) hN (show 3 < 4 by decide)
    have hAw : ∀ q, ((o ≤ q ∧ q < o + 11) ∨ (inI (nI vn) (μ.1 18) = true ∧ na (cx (nI vn)) ≤ q ∧ q < na (cx (nI vn)) + 4)) → (o ≤ q ∧ q < o + 11) ∨ (na vn ≤ q ∧ q < na vn + 4) := fun q h => by
      rw [hcxn] at h
      exact h.imp id And.right
    have hAn : ∀ q, (na vn ≤ q ∧ q < na vn + 4) → ((o ≤ q ∧ q < o + 11) ∨ (inI (nI vn) (μ.1 18) = true ∧ na (cx (nI vn)) ≤ q ∧ q < na (cx (nI vn)) + 4)) := fun q h => Or.inr ⟨hnn, by rw [hcxn]; exact h⟩
    refine crV (rest := []) S hK (c_X6_netAt_y l G o σ vn (na vn) (by omega) (by omega) (hN2 _ hvn)) cw_X6_189 rfl ⟨Nat.le_of_ble_eq_true rfl, Nat.le_of_ble_eq_true rfl⟩ ⟨Nat.le_of_ble_eq_true rfl, Nat.le_of_ble_eq_true rfl⟩ (bk.recv hK hX rfl rfl) hl.1 rfl (Nat.le_of_ble_eq_true rfl) dX6_link_2 hX ?_
    refine lv_astore (lv' := [(4, .ref (na vn)), (0, .ref o), (1, .int (nI vn)), (2, .int a), (3, .int b)]) hx hb dX6_link_5 hl (by decide) rfl (fun ls hl => ?_)
    refine lv_aload hx hb dX6_link_7 (lv_at hl 0 rfl) ?_
    refine lv_ifnull hx hb dX6_link_9 ?_
    refine lv_aload hx hb dX6_link_12 (lv_at hl 0 rfl) ?_
    refine lv_iload_n hx hb dX6_link_14 rfl (lv_at hl 3 rfl) ?_
    refine crV (rest := []) S hK (c_X4_hasFace l G (na vn) ν (fM μ vn) (wyM μ vn) a (by omega)) cw_X6_199 rfl ⟨Nat.le_of_ble_eq_true rfl, Nat.le_of_ble_eq_true rfl⟩ ⟨Nat.le_of_ble_eq_true rfl, Nat.le_of_ble_eq_true rfl⟩ (bk.recv hK hN rfl rfl) hl.1 rfl (Nat.le_of_ble_eq_true rfl) dX6_link_15 ⟨hN, (NB_w hCW hb0 hn0 hvn hNR hS hAw)⟩ ?_
    refine z_if_eq (tgt := 30) hx hb dX6_link_18 (by decide) (fun c_18 => ?_) (fun c_18 => ?_)
    ·
      have hfva := (hsF_e hNR _).symm.trans c_18
      refine lv_aload_n hx hb dX6_link_30 rfl (lv_at hl 1 rfl) ?_
      refine lv_iconst (v := (-1)) hx hb dX6_link_31 (by decide) ?_
      refine ctV (rest := []) S hK (c_X6_refuse l G o σ ρ (-1) 1 rfl (by decide)) cw_X6_42 rfl ⟨Nat.le_of_ble_eq_true rfl, Nat.le_of_ble_eq_true rfl⟩ ⟨Nat.le_of_ble_eq_true rfl, Nat.le_of_ble_eq_true rfl⟩ (bk.recv hK hX rfl rfl) hl.1 rfl (Nat.le_of_ble_eq_true rfl) dX6_link_32 ⟨hX, hRF⟩ hS (fun q h => Or.inl (by omega)) (fun H locs hPost hz hk hS => ?_)
      obtain ⟨hX, hRF⟩ := hPost
      replace hF := hF.over hk (fun q h1 h2 => by have h3 : q < o + 6 + 4 := h2; intro hA1; omega)
      replace hN := hN.over hk (fun q h1 h2 => by have h3 : q < na vn + 4 := h2; intro hA1; omega)
      have hr : link_M μ (nI vn) a b = ((-1), rfM μ 1) := by unfold link_M; rw [hnn, hcxn, hfva] <;> rfl
      refine w_top (v' := .int ((link_M μ (nI vn) a b).1)) (congrArg (fun z => Value.int z) (congrArg Prod.fst hr).symm) ?_
      have hcw := CW_r (G := G) (o := o) (om := om) hr (CW_m hCW hn0 hS hAw hX hF hRF (RX_rf hRX) hvn rfl hN hNR (NE_k (KP_rf μ _) vn))
      exact hE _ _ _ _ _ _ (kr_i dX6_link_35) hS (by decide) (by decide) hcw
    ·
      have hfva := (hsF_e hNR _).symm.trans c_18
      obtain ⟨va, hva, rfl, hva1, hva2⟩ := isFc_x hfva hm1
      have hca := cx_n (j := va) (by omega)
      have ha5 : μ.2.1 3 (μ.2.1 9 (8 * vn + va / 10)) ≤ 5 := fM_5 hb0 hn0 hvn _ hva1
      refine lv_aload hx hb dX6_link_21 (lv_at hl 0 rfl) ?_
      refine lv_iload_n hx hb dX6_link_23 rfl (lv_at hl 4 rfl) ?_
      refine crV (rest := []) S hK (c_X4_hasFace l G (na vn) ν (fM μ vn) (wyM μ vn) b (by omega)) cw_X6_199 rfl ⟨Nat.le_of_ble_eq_true rfl, Nat.le_of_ble_eq_true rfl⟩ ⟨Nat.le_of_ble_eq_true rfl, Nat.le_of_ble_eq_true rfl⟩ (bk.recv hK hN rfl rfl) hl.1 rfl (Nat.le_of_ble_eq_true rfl) dX6_link_24 ⟨hN, (NB_w hCW hb0 hn0 hvn hNR hS hAw)⟩ ?_
      refine z_if_ne (tgt := 36) hx hb dX6_link_27 (by decide) (fun c_27 => ?_) (fun c_27 => ?_)
      ·
        have hfvb := (hsF_e hNR _).symm.trans c_27
        obtain ⟨vb, hvb, rfl, hvb1, hvb2⟩ := isFc_x hfvb hm1
        have hcb := cx_n (j := vb) (by omega)
        have hb5 : μ.2.1 3 (μ.2.1 9 (8 * vn + vb / 10)) ≤ 5 := fM_5 hb0 hn0 hvn _ hvb1
        have hab := nI_eq (a := va) (b := vb) (by omega) (by omega)
        refine lv_iload_n hx hb dX6_link_36 rfl (lv_at hl 3 rfl) ?_
        refine lv_iload_n hx hb dX6_link_37 rfl (lv_at hl 4 rfl) ?_
        refine n_icmp_eq (tgt := 59) hx hb dX6_link_38 (by decide) (by omega) (by omega) (fun c_38 => ?_) (fun c_38 => ?_)
        ·
          refine lv_aload_n hx hb dX6_link_59 rfl (lv_at hl 1 rfl) ?_
          refine lv_bipush (v := (-3)) hx hb dX6_link_60 (by decide) ?_
          refine ctV (rest := []) S hK (c_X6_refuse l G o σ ρ (-3) 3 rfl (by decide)) cw_X6_42 rfl ⟨Nat.le_of_ble_eq_true rfl, Nat.le_of_ble_eq_true rfl⟩ ⟨Nat.le_of_ble_eq_true rfl, Nat.le_of_ble_eq_true rfl⟩ (bk.recv hK hX rfl rfl) hl.1 rfl (Nat.le_of_ble_eq_true rfl) dX6_link_62 ⟨hX, hRF⟩ hS (fun q h => Or.inl (by omega)) (fun H locs hPost hz hk hS => ?_)
          obtain ⟨hX, hRF⟩ := hPost
          replace hF := hF.over hk (fun q h1 h2 => by have h3 : q < o + 6 + 4 := h2; intro hA1; omega)
          replace hN := hN.over hk (fun q h1 h2 => by have h3 : q < na vn + 4 := h2; intro hA1; omega)
          have hr : link_M μ (nI vn) (nI va) (nI vb) = ((-3), rfM μ 3) := by unfold link_M; rw [hnn, hcxn, hfva, hfvb, if_pos (show (true && (true && true)) = true from rfl), hca, hcb, if_pos (congrArg nI c_38)]
          refine w_top (v' := .int ((link_M μ (nI vn) (nI va) (nI vb)).1)) (congrArg (fun z => Value.int z) (congrArg Prod.fst hr).symm) ?_
          have hcw := CW_r (G := G) (o := o) (om := om) hr (CW_m hCW hn0 hS hAw hX hF hRF (RX_rf hRX) hvn rfl hN hNR (NE_k (KP_rf μ _) vn))
          exact hE _ _ _ _ _ _ (kr_i dX6_link_65) hS (by decide) (by decide) hcw
        ·
          refine lv_aload hx hb dX6_link_41 (lv_at hl 0 rfl) ?_
          refine lv_iload_n hx hb dX6_link_43 rfl (lv_at hl 3 rfl) ?_
          refine crV (rest := []) S hK (c_X4_isLinked l G (na vn) ν (fM μ vn) (wyM μ vn) va (by omega) ((hsF_e hNR _).trans hfva) (by omega) h12 (by omega)) cw_X6_202 rfl ⟨Nat.le_of_ble_eq_true rfl, Nat.le_of_ble_eq_true rfl⟩ ⟨Nat.le_of_ble_eq_true rfl, Nat.le_of_ble_eq_true rfl⟩ (bk.recv hK hN rfl rfl) hl.1 rfl (Nat.le_of_ble_eq_true rfl) dX6_link_44 ⟨hN, (NB_w hCW hb0 hn0 hvn hNR hS hAw)⟩ ?_
          refine z_if_ne (tgt := 59) hx hb dX6_link_47 (by decide) (fun c_47 => ?_) (fun c_47 => ?_)
          ·
            refine lv_aload_n hx hb dX6_link_59 rfl (lv_at hl 1 rfl) ?_
            refine lv_bipush (v := (-3)) hx hb dX6_link_60 (by decide) ?_
            refine ctV (rest := []) S hK (c_X6_refuse l G o σ ρ (-3) 3 rfl (by decide)) cw_X6_42 rfl ⟨Nat.le_of_ble_eq_true rfl, Nat.le_of_ble_eq_true rfl⟩ ⟨Nat.le_of_ble_eq_true rfl, Nat.le_of_ble_eq_true rfl⟩ (bk.recv hK hX rfl rfl) hl.1 rfl (Nat.le_of_ble_eq_true rfl) dX6_link_62 ⟨hX, hRF⟩ hS (fun q h => Or.inl (by omega)) (fun H locs hPost hz hk hS => ?_)
            obtain ⟨hX, hRF⟩ := hPost
            replace hF := hF.over hk (fun q h1 h2 => by have h3 : q < o + 6 + 4 := h2; intro hA1; omega)
            replace hN := hN.over hk (fun q h1 h2 => by have h3 : q < na vn + 4 := h2; intro hA1; omega)
            have hr : link_M μ (nI vn) (nI va) (nI vb) = ((-3), rfM μ 3) := by unfold link_M; rw [hnn, hcxn, hfva, hfvb, if_pos (show (true && (true && true)) = true from rfl), hca, hcb, if_neg (fun q => c_38 (hab.mp q)), if_pos ((NR_li hNR (by omega) (by omega)).symm.trans c_47)]
            refine w_top (v' := .int ((link_M μ (nI vn) (nI va) (nI vb)).1)) (congrArg (fun z => Value.int z) (congrArg Prod.fst hr).symm) ?_
            have hcw := CW_r (G := G) (o := o) (om := om) hr (CW_m hCW hn0 hS hAw hX hF hRF (RX_rf hRX) hvn rfl hN hNR (NE_k (KP_rf μ _) vn))
            exact hE _ _ _ _ _ _ (kr_i dX6_link_65) hS (by decide) (by decide) hcw
          ·
            refine lv_aload hx hb dX6_link_50 (lv_at hl 0 rfl) ?_
            refine lv_iload_n hx hb dX6_link_52 rfl (lv_at hl 4 rfl) ?_
            refine crV (rest := []) S hK (c_X4_isLinked l G (na vn) ν (fM μ vn) (wyM μ vn) vb (by omega) ((hsF_e hNR _).trans hfvb) (by omega) h12 (by omega)) cw_X6_202 rfl ⟨Nat.le_of_ble_eq_true rfl, Nat.le_of_ble_eq_true rfl⟩ ⟨Nat.le_of_ble_eq_true rfl, Nat.le_of_ble_eq_true rfl⟩ (bk.recv hK hN rfl rfl) hl.1 rfl (Nat.le_of_ble_eq_true rfl) dX6_link_53 ⟨hN, (NB_w hCW hb0 hn0 hvn hNR hS hAw)⟩ ?_
            refine z_if_eq (tgt := 66) hx hb dX6_link_56 (by decide) (fun c_56 => ?_) (fun c_56 => ?_)
            ·
              have hla : lkM μ vn va = none := Option.not_isSome_iff_eq_none.mp (fun q => by have z := c_47.symm.trans ((NR_li hNR (by omega) (by omega)).trans q); exact absurd z (by decide))
              have hlb : lkM μ vn vb = none := Option.not_isSome_iff_eq_none.mp (fun q => by have z := c_56.symm.trans ((NR_li hNR (by omega) (by omega)).trans q); exact absurd z (by decide))
              refine lv_aload hx hb dX6_link_66 (lv_at hl 0 rfl) ?_
              refine kg (C := RX4) (T := TX4) (N := 5) (ci := 3) (k := 2) (v := .int (nI (ν.1 2))) S hK rfl inX4 (by decide) q_511 dX6_link_68 hN rfl rfl ?_
              refine lv_bipush (v := nI 12) hx hb dX6_link_71 (by decide) ?_
              refine n_icmp_lt (tgt := 83) hx hb dX6_link_73 (by decide) (by omega) (by decide) (fun c_73 => ?_) (fun c_73 => ?_)
              ·
                refine lv_aload hx hb dX6_link_83 (lv_at hl 0 rfl) ?_
                refine lv_iload_n hx hb dX6_link_85 rfl (lv_at hl 3 rfl) ?_
                refine lv_iload_n hx hb dX6_link_86 rfl (lv_at hl 4 rfl) ?_
                refine ctV (rest := []) S hK (c_X4_addLink l G (na vn) ν va vb (by omega) (by omega) (by omega) (by omega)) cw_X6_208 rfl ⟨Nat.le_of_ble_eq_true rfl, Nat.le_of_ble_eq_true rfl⟩ ⟨Nat.le_of_ble_eq_true rfl, Nat.le_of_ble_eq_true rfl⟩ (bk.recv hK hN rfl rfl) hl.1 rfl (Nat.le_of_ble_eq_true rfl) dX6_link_87 hN hS (fun q h => hAn q h) (fun H locs hPost hz hk hS => ?_)
                have hN := hPost
                replace hX := hX.over hk (fun q h1 h2 => by have h3 : q < o + 6 := h2; intro hA1; omega)
                replace hF := hF.over hk (fun q h1 h2 => by have h3 : q < o + 6 + 4 := h2; intro hA1; omega)
                replace hRF := hRF.over hk (fun q h1 h2 => by have h3 : q < o + 10 + 1 := h2; intro hA1; omega)
                have hr : link_M μ (nI vn) (nI va) (nI vb) = ((nI (ν.1 2 + 1)), uA (uA (uA μ 10 (12 * vn + μ.2.1 8 vn) va) 11 (12 * vn + μ.2.1 8 vn) vb) 8 vn (μ.2.1 8 vn + 1)) := by unfold link_M; rw [hnn, hcxn, hfva, hfvb, if_pos (show (true && (true && true)) = true from rfl), hca, hcb, if_neg (fun q => c_38 (hab.mp q)), if_neg (by rw [hla]; decide), if_neg (by rw [hlb]; decide), if_neg (show ¬ μ.2.1 8 vn = 12 by omega), hnr2]
                refine w_top (v' := .int ((link_M μ (nI vn) (nI va) (nI vb)).1)) (congrArg (fun z => Value.int z) (congrArg Prod.fst hr).symm) ?_
                have hcw := CW_r (G := G) (o := o) (om := om) hr (CW_m hCW hn0 hS hAw hX hF hRF (RX_lk hRX _ _ _ _) hvn rfl hN (NR_lk hNR (by omega) (by omega) hla hlb) (NE_lk (by omega)))
                exact hE _ _ _ _ _ _ (kr_i dX6_link_90) hS (by decide) (by decide) hcw
              ·
                refine lv_aload_n hx hb dX6_link_76 rfl (lv_at hl 1 rfl) ?_
                refine lv_bipush (v := (-6)) hx hb dX6_link_77 (by decide) ?_
                refine ctV (rest := []) S hK (c_X6_refuse l G o σ ρ (-6) 6 rfl (by decide)) cw_X6_42 rfl ⟨Nat.le_of_ble_eq_true rfl, Nat.le_of_ble_eq_true rfl⟩ ⟨Nat.le_of_ble_eq_true rfl, Nat.le_of_ble_eq_true rfl⟩ (bk.recv hK hX rfl rfl) hl.1 rfl (Nat.le_of_ble_eq_true rfl) dX6_link_79 ⟨hX, hRF⟩ hS (fun q h => Or.inl (by omega)) (fun H locs hPost hz hk hS => ?_)
                obtain ⟨hX, hRF⟩ := hPost
                replace hF := hF.over hk (fun q h1 h2 => by have h3 : q < o + 6 + 4 := h2; intro hA1; omega)
                replace hN := hN.over hk (fun q h1 h2 => by have h3 : q < na vn + 4 := h2; intro hA1; omega)
                have hr : link_M μ (nI vn) (nI va) (nI vb) = ((-6), rfM μ 6) := by unfold link_M; rw [hnn, hcxn, hfva, hfvb, if_pos (show (true && (true && true)) = true from rfl), hca, hcb, if_neg (fun q => c_38 (hab.mp q)), if_neg (by rw [hla]; decide), if_neg (by rw [hlb]; decide), if_pos (show μ.2.1 8 vn = 12 by omega)]
                refine w_top (v' := .int ((link_M μ (nI vn) (nI va) (nI vb)).1)) (congrArg (fun z => Value.int z) (congrArg Prod.fst hr).symm) ?_
                have hcw := CW_r (G := G) (o := o) (om := om) hr (CW_m hCW hn0 hS hAw hX hF hRF (RX_rf hRX) hvn rfl hN hNR (NE_k (KP_rf μ _) vn))
                exact hE _ _ _ _ _ _ (kr_i dX6_link_82) hS (by decide) (by decide) hcw
            ·
              refine lv_aload_n hx hb dX6_link_59 rfl (lv_at hl 1 rfl) ?_
              refine lv_bipush (v := (-3)) hx hb dX6_link_60 (by decide) ?_
              refine ctV (rest := []) S hK (c_X6_refuse l G o σ ρ (-3) 3 rfl (by decide)) cw_X6_42 rfl ⟨Nat.le_of_ble_eq_true rfl, Nat.le_of_ble_eq_true rfl⟩ ⟨Nat.le_of_ble_eq_true rfl, Nat.le_of_ble_eq_true rfl⟩ (bk.recv hK hX rfl rfl) hl.1 rfl (Nat.le_of_ble_eq_true rfl) dX6_link_62 ⟨hX, hRF⟩ hS (fun q h => Or.inl (by omega)) (fun H locs hPost hz hk hS => ?_)
              obtain ⟨hX, hRF⟩ := hPost
              replace hF := hF.over hk (fun q h1 h2 => by have h3 : q < o + 6 + 4 := h2; intro hA1; omega)
              replace hN := hN.over hk (fun q h1 h2 => by have h3 : q < na vn + 4 := h2; intro hA1; omega)
              have hr : link_M μ (nI vn) (nI va) (nI vb) = ((-3), rfM μ 3) := by unfold link_M; rw [hnn, hcxn, hfva, hfvb, if_pos (show (true && (true && true)) = true from rfl), hca, hcb, if_neg (fun q => c_38 (hab.mp q)), if_neg (fun q => by have z := c_47.symm.trans ((NR_li hNR (by omega) (by omega)).trans q); exact absurd z (by decide)), if_pos ((NR_li hNR (by omega) (by omega)).symm.trans c_56)]
              refine w_top (v' := .int ((link_M μ (nI vn) (nI va) (nI vb)).1)) (congrArg (fun z => Value.int z) (congrArg Prod.fst hr).symm) ?_
              have hcw := CW_r (G := G) (o := o) (om := om) hr (CW_m hCW hn0 hS hAw hX hF hRF (RX_rf hRX) hvn rfl hN hNR (NE_k (KP_rf μ _) vn))
              exact hE _ _ _ _ _ _ (kr_i dX6_link_65) hS (by decide) (by decide) hcw
      ·
        have hfvb := (hsF_e hNR _).symm.trans c_27
        refine lv_aload_n hx hb dX6_link_30 rfl (lv_at hl 1 rfl) ?_
        refine lv_iconst (v := (-1)) hx hb dX6_link_31 (by decide) ?_
        refine ctV (rest := []) S hK (c_X6_refuse l G o σ ρ (-1) 1 rfl (by decide)) cw_X6_42 rfl ⟨Nat.le_of_ble_eq_true rfl, Nat.le_of_ble_eq_true rfl⟩ ⟨Nat.le_of_ble_eq_true rfl, Nat.le_of_ble_eq_true rfl⟩ (bk.recv hK hX rfl rfl) hl.1 rfl (Nat.le_of_ble_eq_true rfl) dX6_link_32 ⟨hX, hRF⟩ hS (fun q h => Or.inl (by omega)) (fun H locs hPost hz hk hS => ?_)
        obtain ⟨hX, hRF⟩ := hPost
        replace hF := hF.over hk (fun q h1 h2 => by have h3 : q < o + 6 + 4 := h2; intro hA1; omega)
        replace hN := hN.over hk (fun q h1 h2 => by have h3 : q < na vn + 4 := h2; intro hA1; omega)
        have hr : link_M μ (nI vn) (nI va) b = ((-1), rfM μ 1) := by unfold link_M; rw [hnn, hcxn, hfva, hfvb] <;> rfl
        refine w_top (v' := .int ((link_M μ (nI vn) (nI va) b).1)) (congrArg (fun z => Value.int z) (congrArg Prod.fst hr).symm) ?_
        have hcw := CW_r (G := G) (o := o) (om := om) hr (CW_m hCW hn0 hS hAw hX hF hRF (RX_rf hRX) hvn rfl hN hNR (NE_k (KP_rf μ _) vn))
        exact hE _ _ _ _ _ _ (kr_i dX6_link_35) hS (by decide) (by decide) hcw

set_option maxHeartbeats 1000000 in
set_option maxRecDepth 100000 in
theorem c_X6_free (l : Launch) (G : Gt) (o : Nat) (om : Nat) (μ : Sx) (pa : Nat → Nat) (na : Nat → Nat) (n : Int32) (i : Int32) (hb0 : MIb μ) (hn0 : MIn μ) (hif : MIf μ) (hit : MIt μ) (hl0 : MIl μ) (hr0 : MIr μ) : Ct l G yX6_free cX6_free 4 ((some .int)) 2 0 0 [.ref o, .int n, .int i] (fun H => CWx G o om μ pa na H) (some (.int ((free_M μ n i).1))) (fun H => CW G o om (free_M μ n i).2 H) (fun q => o ≤ q ∧ q < o + 11) := by
  refine ct_entry [(0, .ref o), (1, .int n), (2, .int i)] (by decide) (Nat.le_of_ble_eq_true rfl) rfl ?_
  intro zp ze zs zm za zb zt zc Q S hK hPre hin hE ls hl
  have hx := S.1
  have hb := S.2.1
  have hCW := hPre
  have hS : va_S (fun q => o ≤ q ∧ q < o + 11) zs.heap zs.heap [] := va_S.rf
  obtain ⟨⟨hoo, hosz, hLH⟩, σ, φ, ρ, hX, hF, hRF, hRX, hWB, hWN, hAP⟩ := id hCW
  obtain ⟨⟨hT1, hT2⟩, ⟨hP1, hP2⟩, ⟨hF1, hF2⟩, ⟨hN1, hN2⟩, ⟨hR1, hR2⟩, ⟨hL1, hL2, hL3, hL4⟩, hRR⟩ := id hRX
  obtain ⟨h16, -⟩ := id hb0
  obtain ⟨h18, -⟩ := id hn0
  obtain ⟨h17, -⟩ := id hif
  obtain ⟨h22, -⟩ := id hit
  obtain ⟨h19, -⟩ := id hl0
  obtain ⟨h20, -⟩ := id hr0
  refine lv_aload_n hx hb dX6_free_0 rfl (lv_at hl 0 rfl) ?_
  refine lv_iload_n hx hb dX6_free_1 rfl (lv_at hl 1 rfl) ?_
  cases hnn : inI n (μ.1 18)
  ·
    refine crV (rest := []) S hK (c_X6_netAt_n l G o σ n (by omega) (by rw [hN1]; exact hnn)) cw_X6_189 rfl ⟨Nat.le_of_ble_eq_true rfl, Nat.le_of_ble_eq_true rfl⟩ ⟨Nat.le_of_ble_eq_true rfl, Nat.le_of_ble_eq_true rfl⟩ (bk.recv hK hX rfl rfl) hl.1 rfl (Nat.le_of_ble_eq_true rfl) dX6_free_2 hX ?_
    refine lv_astore_nN (lv' := [(3, .null), (0, .ref o), (1, .int n), (2, .int i)]) hx hb dX6_free_5 rfl hl (by decide) rfl (fun ls hl => ?_)
    refine lv_aload_nN hx hb dX6_free_6 rfl (lv_at hl 0 rfl) ?_
    refine lv_ifnullN (tgt := 15) hx hb dX6_free_7 (by decide) ?_
    refine lv_aload_n hx hb dX6_free_15 rfl (lv_at hl 1 rfl) ?_
    refine lv_iconst (v := (-1)) hx hb dX6_free_16 (by decide) ?_
    refine ctV (rest := []) S hK (c_X6_refuse l G o σ ρ (-1) 1 rfl (by decide)) cw_X6_42 rfl ⟨Nat.le_of_ble_eq_true rfl, Nat.le_of_ble_eq_true rfl⟩ ⟨Nat.le_of_ble_eq_true rfl, Nat.le_of_ble_eq_true rfl⟩ (bk.recv hK hX rfl rfl) hl.1 rfl (Nat.le_of_ble_eq_true rfl) dX6_free_17 ⟨hX, hRF⟩ hS (fun _ h => by first | exact h | omega) (fun H locs hPost hz hk hS => ?_)
    obtain ⟨hX, hRF⟩ := hPost
    replace hF := hF.over hk (fun q h1 h2 => by have h3 : q < o + 6 + 4 := h2; intro hA1; omega)
    have hr : free_M μ n i = ((-1), rfM μ 1) := by unfold free_M; rw [hnn] <;> rfl
    refine w_top (v' := .int ((free_M μ n i).1)) (congrArg (fun z => Value.int z) (congrArg Prod.fst hr).symm) ?_
    have hcw := CW_r (G := G) (o := o) (om := om) hr (CW_x hCW hS (fun q h => by first | exact Or.inl h | omega) hX hF hRF (RX_rf hRX) (KP_rf μ _))
    exact hE _ _ _ _ _ _ (kr_i dX6_free_20) hS (by decide) (by decide) hcw
  ·
    obtain ⟨vn, hvn, rfl⟩ := inI_x hnn
    have hcxn := cx_n (j := vn) (by omega)
    obtain ⟨hna, ν, hN, hNR⟩ := hWN vn hvn
    obtain ⟨hm1, hm2, hm3, hm4⟩ := id (hn0.2 vn hvn)
    obtain ⟨hnr1, hnr2, hnr3, hnr4⟩ := id hNR
    have h12 := NR_12 hNR hm2
    have hltN := bk.lt (k := 3) hN (show 3 < 4 by decide)
    refine crV (rest := []) S hK (c_X6_netAt_y l G o σ vn (na vn) (by omega) (by omega) (hN2 _ hvn)) cw_X6_189 rfl ⟨Nat.le_of_ble_eq_true rfl, Nat.le_of_ble_eq_true rfl⟩ ⟨Nat.le_of_ble_eq_true rfl, Nat.le_of_ble_eq_true rfl⟩ (bk.recv hK hX rfl rfl) hl.1 rfl (Nat.le_of_ble_eq_true rfl) dX6_free_2 hX ?_
    refine lv_astore_n (lv' := [(3, .ref (na vn)), (0, .ref o), (1, .int (nI vn)), (2, .int i)]) hx hb dX6_free_5 rfl hl (by decide) rfl (fun ls hl => ?_)
    refine lv_aload_n hx hb dX6_free_6 rfl (lv_at hl 0 rfl) ?_
    refine lv_ifnull hx hb dX6_free_7 ?_
    refine lv_iload_n hx hb dX6_free_10 rfl (lv_at hl 3 rfl) ?_
    refine lv_iconst (v := (-1)) hx hb dX6_free_11 (by decide) ?_
    refine lv_icmp_ge (tgt := 21) hx hb dX6_free_12 (by decide) (fun c_12 => ?_) (fun c_12 => ?_)
    ·
      refine lv_iload_n hx hb dX6_free_21 rfl (lv_at hl 3 rfl) ?_
      refine lv_iconst (v := (-1)) hx hb dX6_free_22 (by decide) ?_
      refine lv_icmp_ne (tgt := 33) hx hb dX6_free_23 (by decide) (fun c_23 => ?_) (fun c_23 => ?_)
      ·
        have hi0 : ¬ i < 0 := free_i c_12 c_23
        refine lv_aload_n hx hb dX6_free_33 rfl (lv_at hl 0 rfl) ?_
        refine lv_iload_n hx hb dX6_free_34 rfl (lv_at hl 3 rfl) ?_
        refine crV (rest := []) S hK (c_X4_freeFace l G (na vn) ν (fM μ vn) (wyM μ vn) i (by omega) hi0 h12) cw_X6_214 rfl ⟨Nat.le_of_ble_eq_true rfl, Nat.le_of_ble_eq_true rfl⟩ ⟨Nat.le_of_ble_eq_true rfl, Nat.le_of_ble_eq_true rfl⟩ (bk.recv hK hN rfl rfl) hl.1 rfl (Nat.le_of_ble_eq_true rfl) dX6_free_35 ⟨hN, (NB_w hCW hb0 hn0 hvn hNR hS (fun q h => Or.inl h))⟩ ?_
        have hr : free_M μ (nI vn) i = ((frW (ν.1 1) (fM μ vn) (zK ν) i (-9) 100 0 0 0), μ) := by unfold free_M; rw [hnn, if_pos (show true = true from rfl), if_pos c_12, hcxn, fr_M hNR hb0 hn0 hvn]
        refine w_top (v' := .int ((free_M μ (nI vn) i).1)) (congrArg (fun z => Value.int z) (congrArg Prod.fst hr).symm) ?_
        have hcw := CW_r (G := G) (o := o) (om := om) hr (CW_x hCW hS (fun q h => by first | exact Or.inl h | omega) hX hF hRF (hRX) (KP_r μ))
        exact hE _ _ _ _ _ _ (kr_i dX6_free_38) hS (by decide) (by decide) hcw
      ·
        refine lv_aload_n hx hb dX6_free_26 rfl (lv_at hl 0 rfl) ?_
        refine crV (rest := []) S hK (c_X4_freeCount l G (na vn) ν (fM μ vn) (wyM μ vn) (by omega) h12) cw_X6_211 rfl ⟨Nat.le_of_ble_eq_true rfl, Nat.le_of_ble_eq_true rfl⟩ ⟨Nat.le_of_ble_eq_true rfl, Nat.le_of_ble_eq_true rfl⟩ (bk.recv hK hN rfl rfl) hl.1 rfl (Nat.le_of_ble_eq_true rfl) dX6_free_27 ⟨hN, (NB_w hCW hb0 hn0 hvn hNR hS (fun q h => Or.inl h))⟩ ?_
        refine lv_goto (tgt := 38) hx hb dX6_free_30 (by decide) ?_
        have hr : free_M μ (nI vn) i = ((nI (fcN (fM μ vn) (zK ν) (ν.1 1))), μ) := by unfold free_M; rw [hnn, if_pos (show true = true from rfl), if_pos c_12, hcxn, c_23, fr_c hNR hb0 hn0 hvn]
        refine w_top (v' := .int ((free_M μ (nI vn) i).1)) (congrArg (fun z => Value.int z) (congrArg Prod.fst hr).symm) ?_
        have hcw := CW_r (G := G) (o := o) (om := om) hr (CW_x hCW hS (fun q h => by first | exact Or.inl h | omega) hX hF hRF (hRX) (KP_r μ))
        exact hE _ _ _ _ _ _ (kr_i dX6_free_38) hS (by decide) (by decide) hcw
    ·
      refine lv_aload_n hx hb dX6_free_15 rfl (lv_at hl 1 rfl) ?_
      refine lv_iconst (v := (-1)) hx hb dX6_free_16 (by decide) ?_
      refine ctV (rest := []) S hK (c_X6_refuse l G o σ ρ (-1) 1 rfl (by decide)) cw_X6_42 rfl ⟨Nat.le_of_ble_eq_true rfl, Nat.le_of_ble_eq_true rfl⟩ ⟨Nat.le_of_ble_eq_true rfl, Nat.le_of_ble_eq_true rfl⟩ (bk.recv hK hX rfl rfl) hl.1 rfl (Nat.le_of_ble_eq_true rfl) dX6_free_17 ⟨hX, hRF⟩ hS (fun _ h => by first | exact h | omega) (fun H locs hPost hz hk hS => ?_)
      obtain ⟨hX, hRF⟩ := hPost
      replace hF := hF.over hk (fun q h1 h2 => by have h3 : q < o + 6 + 4 := h2; intro hA1; omega)
      replace hN := hN.over hk (fun q h1 h2 => by have h3 : q < na vn + 4 := h2; intro hA1; omega)
      have hr : free_M μ (nI vn) i = ((-1), rfM μ 1) := by unfold free_M; rw [hnn, if_pos (show true = true from rfl), if_neg (fun q => by first | exact c_12 q | exact absurd q (Int32.not_le.mpr c_12))]
      refine w_top (v' := .int ((free_M μ (nI vn) i).1)) (congrArg (fun z => Value.int z) (congrArg Prod.fst hr).symm) ?_
      have hcw := CW_r (G := G) (o := o) (om := om) hr (CW_x hCW hS (fun q h => by first | exact Or.inl h | omega) hX hF hRF (RX_rf hRX) (KP_rf μ _))
      exact hE _ _ _ _ _ _ (kr_i dX6_free_20) hS (by decide) (by decide) hcw

set_option maxHeartbeats 1000000 in
set_option maxRecDepth 100000 in
theorem c_X6_refusalOfNetState_n (l : Launch) (G : Gt) (o : Nat) (σ : Sx) (n : Int32) (st : Int32) (hn6 : σ.1 7 ≤ 6) (hnn : inI n (σ.1 7) = false) : Cr l G yX6_refusalOfNetState cX6_refusalOfNetState 5 ((some .int)) 2 [.ref o, .int n, .int st] (fun H => bk G o (xL G o σ) H) (some (.int (-1))) := by
  refine cr_entry [(0, .ref o), (1, .int n), (2, .int st)] (by decide) (Nat.le_of_ble_eq_true rfl) rfl ?_
  intro zp ze zs zm za zb zt zc Q S hK hPre hE ls hl
  have hx := S.1
  have hb := S.2.1
  have hX := hPre
  refine lv_aload_n hx hb dX6_refusalOfNetState_0 rfl (lv_at hl 0 rfl) ?_
  refine lv_iload_n hx hb dX6_refusalOfNetState_1 rfl (lv_at hl 1 rfl) ?_
  refine crV (rest := []) S hK (c_X6_netAt_n l G o σ n (by first | assumption | omega | decide) hnn) cw_X6_189 rfl ⟨Nat.le_of_ble_eq_true rfl, Nat.le_of_ble_eq_true rfl⟩ ⟨Nat.le_of_ble_eq_true rfl, Nat.le_of_ble_eq_true rfl⟩ (bk.recv hK hX rfl rfl) hl.1 rfl (Nat.le_of_ble_eq_true rfl) dX6_refusalOfNetState_2 hX ?_
  refine lv_astore_nN (lv' := [(3, .null), (0, .ref o), (1, .int n), (2, .int st)]) hx hb dX6_refusalOfNetState_5 rfl hl (by decide) rfl (fun ls hl => ?_)
  refine lv_aload_nN hx hb dX6_refusalOfNetState_6 rfl (lv_at hl 0 rfl) ?_
  refine lv_ifnonnullN hx hb dX6_refusalOfNetState_7 ?_
  refine lv_iconst (v := (-1)) hx hb dX6_refusalOfNetState_10 (by decide) ?_
  exact hE _ _ (kr_i dX6_refusalOfNetState_11)

set_option maxHeartbeats 1000000 in
set_option maxRecDepth 100000 in
theorem c_X6_refusalOfNetState_3 (l : Launch) (G : Gt) (o : Nat) (σ : Sx) (nn : Nat) (ν : Sx) (F : Nat → Nat) (Wy : Nat → Nat → Nat) (vn : Nat) (st : Int32) (hn6 : σ.1 7 ≤ 6) (hvp : vn < σ.1 7) (hpa : σ.2.2 6 vn = some nn) (hP8 : ν.1 1 ≤ 8) (hl12 : ∀ j, j < 40 → ν.2.1 3 j ≤ 12) (hc : 10 < fcN F (zK ν) (ν.1 1)) (hc31 : fcN F (zK ν) (ν.1 1) < 2 ^ 31) : Cr l G yX6_refusalOfNetState cX6_refusalOfNetState 5 ((some .int)) 2 [.ref o, .int (nI vn), .int st] (fun H => bk G o (xL G o σ) H ∧ bk G nn (ntL G nn ν) H ∧ NB G nn ν F Wy H) (some (.int (-3))) := by
  refine cr_entry [(0, .ref o), (1, .int (nI vn)), (2, .int st)] (by decide) (Nat.le_of_ble_eq_true rfl) rfl ?_
  intro zp ze zs zm za zb zt zc Q S hK hPre hE ls hl
  have hx := S.1
  have hb := S.2.1
  obtain ⟨hX, hN, hNB⟩ := hPre
  refine lv_aload_n hx hb dX6_refusalOfNetState_0 rfl (lv_at hl 0 rfl) ?_
  refine lv_iload_n hx hb dX6_refusalOfNetState_1 rfl (lv_at hl 1 rfl) ?_
  refine crV (rest := []) S hK (c_X6_netAt_y l G o σ vn nn (by first | assumption | omega | decide) (by first | assumption | omega | decide) (by first | assumption | omega | decide)) cw_X6_189 rfl ⟨Nat.le_of_ble_eq_true rfl, Nat.le_of_ble_eq_true rfl⟩ ⟨Nat.le_of_ble_eq_true rfl, Nat.le_of_ble_eq_true rfl⟩ (bk.recv hK hX rfl rfl) hl.1 rfl (Nat.le_of_ble_eq_true rfl) dX6_refusalOfNetState_2 hX ?_
  refine lv_astore_n (lv' := [(3, .ref nn), (0, .ref o), (1, .int (nI vn)), (2, .int st)]) hx hb dX6_refusalOfNetState_5 rfl hl (by decide) rfl (fun ls hl => ?_)
  refine lv_aload_n hx hb dX6_refusalOfNetState_6 rfl (lv_at hl 0 rfl) ?_
  refine lv_ifnonnull (tgt := 12) hx hb dX6_refusalOfNetState_7 (by decide) ?_
  refine lv_aload_n hx hb dX6_refusalOfNetState_12 rfl (lv_at hl 0 rfl) ?_
  refine crV (rest := []) S hK (c_X4_freeCount l G nn ν F Wy (by first | assumption | omega | decide) (by first | assumption | omega | decide)) cw_X6_211 rfl ⟨Nat.le_of_ble_eq_true rfl, Nat.le_of_ble_eq_true rfl⟩ ⟨Nat.le_of_ble_eq_true rfl, Nat.le_of_ble_eq_true rfl⟩ (bk.recv hK hN rfl rfl) hl.1 rfl (Nat.le_of_ble_eq_true rfl) dX6_refusalOfNetState_13 ⟨hN, hNB⟩ ?_
  refine lv_istore (lv' := [(4, .int (nI (fcN F (zK ν) (ν.1 1)))), (3, .ref nn), (0, .ref o), (1, .int (nI vn)), (2, .int st)]) hx hb dX6_refusalOfNetState_16 hl (by decide) rfl (fun ls hl => ?_)
  refine lv_iload hx hb dX6_refusalOfNetState_18 (lv_at hl 0 rfl) ?_
  refine lv_bipush (v := nI 10) hx hb dX6_refusalOfNetState_20 (by decide) ?_
  refine n_icmp_le (tgt := 28) hx hb dX6_refusalOfNetState_22 (by decide) (by omega) (by decide) (fun c_22 => ?_) (fun c_22 => ?_)
  ·
    omega
  ·
    refine lv_bipush (v := (-3)) hx hb dX6_refusalOfNetState_25 (by decide) ?_
    exact hE _ _ (kr_i dX6_refusalOfNetState_27)

set_option maxHeartbeats 1000000 in
set_option maxRecDepth 100000 in
theorem c_X6_refusalOfNetState_1 (l : Launch) (G : Gt) (o : Nat) (σ : Sx) (nn : Nat) (ν : Sx) (F : Nat → Nat) (Wy : Nat → Nat → Nat) (vn : Nat) (st : Int32) (hn6 : σ.1 7 ≤ 6) (hvp : vn < σ.1 7) (hpa : σ.2.2 6 vn = some nn) (hP8 : ν.1 1 ≤ 8) (hl12 : ∀ j, j < 40 → ν.2.1 3 j ≤ 12) (hc : ¬ 10 < fcN F (zK ν) (ν.1 1)) (hs : inI st (1 <<< fcN F (zK ν) (ν.1 1)) = false) : Cr l G yX6_refusalOfNetState cX6_refusalOfNetState 5 ((some .int)) 2 [.ref o, .int (nI vn), .int st] (fun H => bk G o (xL G o σ) H ∧ bk G nn (ntL G nn ν) H ∧ NB G nn ν F Wy H) (some (.int (-1))) := by
  refine cr_entry [(0, .ref o), (1, .int (nI vn)), (2, .int st)] (by decide) (Nat.le_of_ble_eq_true rfl) rfl ?_
  intro zp ze zs zm za zb zt zc Q S hK hPre hE ls hl
  have hx := S.1
  have hb := S.2.1
  obtain ⟨hX, hN, hNB⟩ := hPre
  refine lv_aload_n hx hb dX6_refusalOfNetState_0 rfl (lv_at hl 0 rfl) ?_
  refine lv_iload_n hx hb dX6_refusalOfNetState_1 rfl (lv_at hl 1 rfl) ?_
  refine crV (rest := []) S hK (c_X6_netAt_y l G o σ vn nn (by first | assumption | omega | decide) (by first | assumption | omega | decide) (by first | assumption | omega | decide)) cw_X6_189 rfl ⟨Nat.le_of_ble_eq_true rfl, Nat.le_of_ble_eq_true rfl⟩ ⟨Nat.le_of_ble_eq_true rfl, Nat.le_of_ble_eq_true rfl⟩ (bk.recv hK hX rfl rfl) hl.1 rfl (Nat.le_of_ble_eq_true rfl) dX6_refusalOfNetState_2 hX ?_
  refine lv_astore_n (lv' := [(3, .ref nn), (0, .ref o), (1, .int (nI vn)), (2, .int st)]) hx hb dX6_refusalOfNetState_5 rfl hl (by decide) rfl (fun ls hl => ?_)
  refine lv_aload_n hx hb dX6_refusalOfNetState_6 rfl (lv_at hl 0 rfl) ?_
  refine lv_ifnonnull (tgt := 12) hx hb dX6_refusalOfNetState_7 (by decide) ?_
  refine lv_aload_n hx hb dX6_refusalOfNetState_12 rfl (lv_at hl 0 rfl) ?_
  refine crV (rest := []) S hK (c_X4_freeCount l G nn ν F Wy (by first | assumption | omega | decide) (by first | assumption | omega | decide)) cw_X6_211 rfl ⟨Nat.le_of_ble_eq_true rfl, Nat.le_of_ble_eq_true rfl⟩ ⟨Nat.le_of_ble_eq_true rfl, Nat.le_of_ble_eq_true rfl⟩ (bk.recv hK hN rfl rfl) hl.1 rfl (Nat.le_of_ble_eq_true rfl) dX6_refusalOfNetState_13 ⟨hN, hNB⟩ ?_
  refine lv_istore (lv' := [(4, .int (nI (fcN F (zK ν) (ν.1 1)))), (3, .ref nn), (0, .ref o), (1, .int (nI vn)), (2, .int st)]) hx hb dX6_refusalOfNetState_16 hl (by decide) rfl (fun ls hl => ?_)
  refine lv_iload hx hb dX6_refusalOfNetState_18 (lv_at hl 0 rfl) ?_
  refine lv_bipush (v := nI 10) hx hb dX6_refusalOfNetState_20 (by decide) ?_
  refine n_icmp_le (tgt := 28) hx hb dX6_refusalOfNetState_22 (by decide) (by omega) (by decide) (fun c_22 => ?_) (fun c_22 => ?_)
  ·
    refine lv_iload_n hx hb dX6_refusalOfNetState_28 rfl (lv_at hl 4 rfl) ?_
    refine lv_if_lt (tgt := 40) hx hb dX6_refusalOfNetState_29 (by decide) (fun c_29 => ?_) (fun c_29 => ?_)
    ·
      refine lv_iconst (v := (-1)) hx hb dX6_refusalOfNetState_40 (by decide) ?_
      refine lv_goto (tgt := 45) hx hb dX6_refusalOfNetState_41 (by decide) ?_
      exact hE _ _ (kr_i dX6_refusalOfNetState_45)
    ·
      refine lv_iload_n hx hb dX6_refusalOfNetState_32 rfl (lv_at hl 4 rfl) ?_
      refine lv_iconst (v := nI 1) hx hb dX6_refusalOfNetState_33 (by decide) ?_
      refine lv_iload hx hb dX6_refusalOfNetState_34 (lv_at hl 0 rfl) ?_
      refine n_ishl hx hb dX6_refusalOfNetState_36 (by omega) ?_
      refine lv_icmp_lt (tgt := 44) hx hb dX6_refusalOfNetState_37 (by decide) (fun c_37 => ?_) (fun c_37 => ?_)
      ·
        rw [inI_of2 (by have := shl_le (n := 10) (f := fcN F (zK ν) (ν.1 1)) (by omega); omega) (Int32.not_lt.mp c_29) c_37] at hs; exact absurd hs (by decide)
      ·
        refine lv_iconst (v := (-1)) hx hb dX6_refusalOfNetState_40 (by decide) ?_
        refine lv_goto (tgt := 45) hx hb dX6_refusalOfNetState_41 (by decide) ?_
        exact hE _ _ (kr_i dX6_refusalOfNetState_45)
  ·
    omega

set_option maxHeartbeats 1000000 in
set_option maxRecDepth 100000 in
theorem c_X6_refusalOfNetState_0 (l : Launch) (G : Gt) (o : Nat) (σ : Sx) (nn : Nat) (ν : Sx) (F : Nat → Nat) (Wy : Nat → Nat → Nat) (vn : Nat) (st : Int32) (hn6 : σ.1 7 ≤ 6) (hvp : vn < σ.1 7) (hpa : σ.2.2 6 vn = some nn) (hP8 : ν.1 1 ≤ 8) (hl12 : ∀ j, j < 40 → ν.2.1 3 j ≤ 12) (hc : ¬ 10 < fcN F (zK ν) (ν.1 1)) (hs : inI st (1 <<< fcN F (zK ν) (ν.1 1)) = true) : Cr l G yX6_refusalOfNetState cX6_refusalOfNetState 5 ((some .int)) 2 [.ref o, .int (nI vn), .int st] (fun H => bk G o (xL G o σ) H ∧ bk G nn (ntL G nn ν) H ∧ NB G nn ν F Wy H) (some (.int (nI 0))) := by
  refine cr_entry [(0, .ref o), (1, .int (nI vn)), (2, .int st)] (by decide) (Nat.le_of_ble_eq_true rfl) rfl ?_
  intro zp ze zs zm za zb zt zc Q S hK hPre hE ls hl
  have hx := S.1
  have hb := S.2.1
  obtain ⟨hX, hN, hNB⟩ := hPre
  refine lv_aload_n hx hb dX6_refusalOfNetState_0 rfl (lv_at hl 0 rfl) ?_
  refine lv_iload_n hx hb dX6_refusalOfNetState_1 rfl (lv_at hl 1 rfl) ?_
  refine crV (rest := []) S hK (c_X6_netAt_y l G o σ vn nn (by first | assumption | omega | decide) (by first | assumption | omega | decide) (by first | assumption | omega | decide)) cw_X6_189 rfl ⟨Nat.le_of_ble_eq_true rfl, Nat.le_of_ble_eq_true rfl⟩ ⟨Nat.le_of_ble_eq_true rfl, Nat.le_of_ble_eq_true rfl⟩ (bk.recv hK hX rfl rfl) hl.1 rfl (Nat.le_of_ble_eq_true rfl) dX6_refusalOfNetState_2 hX ?_
  refine lv_astore_n (lv' := [(3, .ref nn), (0, .ref o), (1, .int (nI vn)), (2, .int st)]) hx hb dX6_refusalOfNetState_5 rfl hl (by decide) rfl (fun ls hl => ?_)
  refine lv_aload_n hx hb dX6_refusalOfNetState_6 rfl (lv_at hl 0 rfl) ?_
  refine lv_ifnonnull (tgt := 12) hx hb dX6_refusalOfNetState_7 (by decide) ?_
  refine lv_aload_n hx hb dX6_refusalOfNetState_12 rfl (lv_at hl 0 rfl) ?_
  refine crV (rest := []) S hK (c_X4_freeCount l G nn ν F Wy (by first | assumption | omega | decide) (by first | assumption | omega | decide)) cw_X6_211 rfl ⟨Nat.le_of_ble_eq_true rfl, Nat.le_of_ble_eq_true rfl⟩ ⟨Nat.le_of_ble_eq_true rfl, Nat.le_of_ble_eq_true rfl⟩ (bk.recv hK hN rfl rfl) hl.1 rfl (Nat.le_of_ble_eq_true rfl) dX6_refusalOfNetState_13 ⟨hN, hNB⟩ ?_
  refine lv_istore (lv' := [(4, .int (nI (fcN F (zK ν) (ν.1 1)))), (3, .ref nn), (0, .ref o), (1, .int (nI vn)), (2, .int st)]) hx hb dX6_refusalOfNetState_16 hl (by decide) rfl (fun ls hl => ?_)
  refine lv_iload hx hb dX6_refusalOfNetState_18 (lv_at hl 0 rfl) ?_
  refine lv_bipush (v := nI 10) hx hb dX6_refusalOfNetState_20 (by decide) ?_
  refine n_icmp_le (tgt := 28) hx hb dX6_refusalOfNetState_22 (by decide) (by omega) (by decide) (fun c_22 => ?_) (fun c_22 => ?_)
  ·
    refine lv_iload_n hx hb dX6_refusalOfNetState_28 rfl (lv_at hl 4 rfl) ?_
    refine lv_if_lt (tgt := 40) hx hb dX6_refusalOfNetState_29 (by decide) (fun c_29 => ?_) (fun c_29 => ?_)
    ·
      rw [inI_lt c_29] at hs; exact absurd hs (by decide)
    ·
      refine lv_iload_n hx hb dX6_refusalOfNetState_32 rfl (lv_at hl 4 rfl) ?_
      refine lv_iconst (v := nI 1) hx hb dX6_refusalOfNetState_33 (by decide) ?_
      refine lv_iload hx hb dX6_refusalOfNetState_34 (lv_at hl 0 rfl) ?_
      refine n_ishl hx hb dX6_refusalOfNetState_36 (by omega) ?_
      refine lv_icmp_lt (tgt := 44) hx hb dX6_refusalOfNetState_37 (by decide) (fun c_37 => ?_) (fun c_37 => ?_)
      ·
        refine lv_iconst (v := nI 0) hx hb dX6_refusalOfNetState_44 (by decide) ?_
        exact hE _ _ (kr_i dX6_refusalOfNetState_45)
      ·
        rw [inI_ge (by have := shl_le (n := 10) (f := fcN F (zK ν) (ν.1 1)) (by omega); omega) (Int32.not_lt.mp c_37)] at hs; exact absurd hs (by decide)
  ·
    omega
