
/-! walks: FORMULAS read by the class -/
theorem sgT_n {t : Nat → Nat} {n s p : Nat} (h : n ≤ p) : sgM (mT t n s) p = none := by rw [sgT, if_pos h]
theorem sgT_s {t : Nat → Nat} {n s p : Nat} (h : ¬ n ≤ p) : sgM (mT t n s) p = some (t p) := by rw [sgT, if_neg h]

set_option maxHeartbeats 1000000 in
set_option maxRecDepth 100000 in
theorem c_X3_next_e (l : Launch) (G : Gt) (b : Nat) (σ : Sx) (τ : Sx) (vp : Nat) (hn40 : σ.1 1 ≤ 40) (h256 : ∀ i, i < σ.1 1 → τ.2.1 0 i < 256) (hap : σ.1 0 + 1 ≤ b) (hsg : sgM (mT (τ.2.1 0) (σ.1 1) 0) vp = none) (hp31 : vp < 2 ^ 31) : Cr l G yX3_next cX3_next 1 ((some .int)) 0 [.ref b] (fun H => bk G b (ftL G b (fq σ vp 0)) H ∧ bk G (σ.1 0) (tpL G (σ.1 0) τ) H) (some (.int (-1))) := by
  refine cr_entry [(0, .ref b)] (by decide) (Nat.le_of_ble_eq_true rfl) rfl ?_
  intro zp ze zs zm za zb zt zc Q S hK hPre hE ls hl
  have hx := S.1
  have hb := S.2.1
  obtain ⟨hF, hTP⟩ := hPre
  have hle : σ.1 1 ≤ vp := by
    rcases Nat.lt_or_ge vp (σ.1 1) with q | q
    · rw [sgT_s (by omega)] at hsg; cases hsg
    · exact q
  refine lv_aload_n hx hb dX3_next_0 rfl (lv_at hl 0 rfl) ?_
  refine kg (C := RX3) (T := TX3) (N := 4) (ci := 2) (k := 2) (v := .int (nI vp)) S hK rfl inX3 (by decide) q_348 dX3_next_1 hF rfl rfl ?_
  refine lv_aload_n hx hb dX3_next_4 rfl (lv_at hl 0 rfl) ?_
  refine kg (C := RX3) (T := TX3) (N := 4) (ci := 2) (k := 1) (v := .int (nI (σ.1 1))) S hK rfl inX3 (by decide) q_347 dX3_next_5 hF rfl rfl ?_
  refine n_icmp_ge (tgt := 35) hx hb dX3_next_8 (by decide) (by omega) (by omega) (fun c_8 => ?_) (fun c_8 => ?_)
  ·
    refine lv_iconst (v := (-1)) hx hb dX3_next_35 (by decide) ?_
    exact hE _ _ (kr_i dX3_next_36)
  ·
    omega

set_option maxHeartbeats 1000000 in
set_option maxRecDepth 100000 in
theorem c_X3_next_b (l : Launch) (G : Gt) (b : Nat) (σ : Sx) (τ : Sx) (vp : Nat) (vc : Nat) (hn40 : σ.1 1 ≤ 40) (h256 : ∀ i, i < σ.1 1 → τ.2.1 0 i < 256) (hap : σ.1 0 + 1 ≤ b) (hsg : sgM (mT (τ.2.1 0) (σ.1 1) 0) vp = some vc) : Cr l G yX3_next cX3_next 1 ((some .int)) 0 [.ref b] (fun H => bk G b (ftL G b (fq σ vp 0)) H ∧ bk G (σ.1 0) (tpL G (σ.1 0) τ) H) (some (.int (nI vc))) := by
  refine cr_entry [(0, .ref b)] (by decide) (Nat.le_of_ble_eq_true rfl) rfl ?_
  intro zp ze zs zm za zb zt zc Q S hK hPre hE ls hl
  have hx := S.1
  have hb := S.2.1
  obtain ⟨hF, hTP⟩ := hPre
  have hle : ¬ σ.1 1 ≤ vp := fun q => by rw [sgT_n q] at hsg; cases hsg
  have hvc : τ.2.1 0 vp = vc := by rw [sgT_s hle] at hsg; exact Option.some.inj hsg
  refine lv_aload_n hx hb dX3_next_0 rfl (lv_at hl 0 rfl) ?_
  refine kg (C := RX3) (T := TX3) (N := 4) (ci := 2) (k := 2) (v := .int (nI vp)) S hK rfl inX3 (by decide) q_348 dX3_next_1 hF rfl rfl ?_
  refine lv_aload_n hx hb dX3_next_4 rfl (lv_at hl 0 rfl) ?_
  refine kg (C := RX3) (T := TX3) (N := 4) (ci := 2) (k := 1) (v := .int (nI (σ.1 1))) S hK rfl inX3 (by decide) q_347 dX3_next_5 hF rfl rfl ?_
  refine n_icmp_ge (tgt := 35) hx hb dX3_next_8 (by decide) (by omega) (by omega) (fun c_8 => ?_) (fun c_8 => ?_)
  ·
    omega
  ·
    refine lv_aload_n hx hb dX3_next_11 rfl (lv_at hl 0 rfl) ?_
    refine kg (C := RX3) (T := TX3) (N := 4) (ci := 2) (k := 2) (v := .int (nI vp)) S hK rfl inX3 (by decide) q_348 dX3_next_12 hF rfl rfl ?_
    refine lv_aload_n hx hb dX3_next_15 rfl (lv_at hl 0 rfl) ?_
    refine kg (C := RX3) (T := TX3) (N := 4) (ci := 2) (k := 0) (v := .ref (σ.1 0)) S hK rfl inX3 (by decide) q_346 dX3_next_16 hF rfl rfl ?_
    refine kal S hK dX3_next_19 0 0 hTP rfl rfl ?_
    refine w_top (v' := .int (nI 40)) rfl ?_
    refine n_icmp_ge (tgt := 35) hx hb dX3_next_20 (by decide) (by omega) (by decide) (fun c_20 => ?_) (fun c_20 => ?_)
    ·
      omega
    ·
      refine lv_aload_n hx hb dX3_next_23 rfl (lv_at hl 0 rfl) ?_
      refine kg (C := RX3) (T := TX3) (N := 4) (ci := 2) (k := 0) (v := .ref (σ.1 0)) S hK rfl inX3 (by decide) q_346 dX3_next_24 hF rfl rfl ?_
      refine lv_aload_n hx hb dX3_next_27 rfl (lv_at hl 0 rfl) ?_
      refine kg (C := RX3) (T := TX3) (N := 4) (ci := 2) (k := 2) (v := .int (nI vp)) S hK rfl inX3 (by decide) q_348 dX3_next_28 hF rfl rfl ?_
      refine kil (f := τ.2.1 0) S hK dX3_next_31 0 hTP rfl (by decide) rfl (by omega) ?_
      refine lv_goto (tgt := 36) hx hb dX3_next_32 (by decide) ?_
      refine w_top (v' := .int (nI vc)) (congrArg (fun z => Value.int (nI z)) (show (τ.2.1 0 vp) = vc from hvc)) ?_
      exact hE _ _ (kr_i dX3_next_36)

set_option maxHeartbeats 1000000 in
set_option maxRecDepth 100000 in
theorem c_X3_fail_0 (l : Launch) (G : Gt) (b : Nat) (σ : Sx) (vp : Nat) (hp31 : vp < 2 ^ 31) : Ct l G yX3_fail cX3_fail 1 ((some .long)) 0 0 0 [.ref b] (fun H => bk G b (ftL G b (fq σ vp 0)) H) (some (.long (lN 0))) (fun H => bk G b (ftL G b (fq σ vp (vp + 1))) H) (fun q => b ≤ q ∧ q < b + 1) := by
  refine ct_entry [(0, .ref b)] (by decide) (Nat.le_of_ble_eq_true rfl) rfl ?_
  intro zp ze zs zm za zb zt zc Q S hK hPre hin hE ls hl
  have hx := S.1
  have hb := S.2.1
  have hF := hPre
  have hS : va_S (fun q => b ≤ q ∧ q < b + 1) zs.heap zs.heap [] := va_S.rf
  refine lv_aload_n hx hb dX3_fail_0 rfl (lv_at hl 0 rfl) ?_
  refine kg (C := RX3) (T := TX3) (N := 4) (ci := 2) (k := 3) (v := .int (flt 0)) S hK rfl inX3 (by decide) q_349 dX3_fail_1 hF rfl rfl ?_
  refine lv_iconst (v := (-1)) hx hb dX3_fail_4 (by decide) ?_
  refine lv_icmp_ne (tgt := 16) hx hb dX3_fail_5 (by decide) (fun c_5 => ?_) (fun c_5 => ?_)
  ·
    exact absurd rfl c_5
  ·
    refine lv_aload_n hx hb dX3_fail_8 rfl (lv_at hl 0 rfl) ?_
    refine lv_aload_n hx hb dX3_fail_9 rfl (lv_at hl 0 rfl) ?_
    refine kg (C := RX3) (T := TX3) (N := 4) (ci := 2) (k := 2) (v := .int (nI vp)) S hK rfl inX3 (by decide) q_348 dX3_fail_10 hF rfl rfl ?_
    refine kp (C := RX3) (T := TX3) (N := 4) (ci := 2) (k := 3) (ty := .int) tyX3 tyX3_ok nmX3 S hK rfl inX3 (by decide) q_349 rfl dX3_fail_13 rfl rfl rfl hF rfl (Nat.le_of_ble_eq_true rfl) (L1 := ftL G b (fq σ vp (vp + 1))) rfl hS (by first | exact ⟨by omega, by omega⟩ | omega) (fun H locs hF hS hz2 hk => ?_)
    refine lv_lconst (v := lN 0) hx hb dX3_fail_16 (by decide) ?_
    exact hE _ _ _ _ _ _ (kr_l dX3_fail_17) hS (by decide) (by decide) hF

set_option maxHeartbeats 1000000 in
set_option maxRecDepth 100000 in
theorem c_X3_fail_1 (l : Launch) (G : Gt) (b : Nat) (σ : Sx) (vp : Nat) (hp31 : vp < 2 ^ 31) : Ct l G yX3_fail cX3_fail 1 ((some .long)) 0 0 0 [.ref b] (fun H => bk G b (ftL G b (fq σ vp (vp + 1))) H) (some (.long (lN 0))) (fun H => bk G b (ftL G b (fq σ vp (vp + 1))) H) (fun q => b ≤ q ∧ q < b + 1) := by
  refine ct_entry [(0, .ref b)] (by decide) (Nat.le_of_ble_eq_true rfl) rfl ?_
  intro zp ze zs zm za zb zt zc Q S hK hPre hin hE ls hl
  have hx := S.1
  have hb := S.2.1
  have hF := hPre
  have hS : va_S (fun q => b ≤ q ∧ q < b + 1) zs.heap zs.heap [] := va_S.rf
  refine lv_aload_n hx hb dX3_fail_0 rfl (lv_at hl 0 rfl) ?_
  refine kg (C := RX3) (T := TX3) (N := 4) (ci := 2) (k := 3) (v := .int (flt (vp + 1))) S hK rfl inX3 (by decide) q_349 dX3_fail_1 hF rfl rfl ?_
  refine lv_iconst (v := (-1)) hx hb dX3_fail_4 (by decide) ?_
  refine lv_icmp_ne (tgt := 16) hx hb dX3_fail_5 (by decide) (fun c_5 => ?_) (fun c_5 => ?_)
  ·
    refine lv_lconst (v := lN 0) hx hb dX3_fail_16 (by decide) ?_
    exact hE _ _ _ _ _ _ (kr_l dX3_fail_17) hS (by decide) (by decide) hF
  ·
    exact absurd c_5.symm (neg1_ne (n := vp) hp31)

def CU (l : Launch) (G : Gt) (b : Nat) (σ τ : Sx) (lo n : Nat) : Prop := ∀ (vp vd vT p2 w2 : Nat), (σ.1 1 ≤ 40) → (∀ i, i < σ.1 1 → τ.2.1 0 i < 256) → (σ.1 0 + 1 ≤ b) → (lo ≤ b) → (vp ≤ σ.1 1) → (vd ≤ 5) → (4 * (σ.1 1 - vp) + 1 ≤ n) → (pT (mT (τ.2.1 0) (σ.1 1) 0) n 2 0 vp vd 1 = (vT, p2, w2)) → Ct l G yX3_readUnit cX3_readUnit 4 ((some .long)) (4 * (5 - vd) + 2) 0 0 [.ref b, .int (nI vd)] (fun H => bk G b (ftL G b (fq σ vp 0)) H ∧ bk G (σ.1 0) (tpL G (σ.1 0) τ) H ∧ gLH G lo H) (some (.long (lN vT))) (fun H => bk G b (ftL G b (fq σ p2 (fe p2 w2))) H ∧ bk G (σ.1 0) (tpL G (σ.1 0) τ) H) (fun q => b ≤ q ∧ q < b + 1)

def CA (l : Launch) (G : Gt) (b : Nat) (σ τ : Sx) (lo n : Nat) : Prop := ∀ (vp vd vT p2 w2 : Nat), (σ.1 1 ≤ 40) → (∀ i, i < σ.1 1 → τ.2.1 0 i < 256) → (σ.1 0 + 1 ≤ b) → (lo ≤ b) → (vp ≤ σ.1 1) → (vd ≤ 5) → (4 * (σ.1 1 - vp) + 2 ≤ n) → (pT (mT (τ.2.1 0) (σ.1 1) 0) n 1 0 vp vd 1 = (vT, p2, w2)) → Ct l G yX3_readAnd cX3_readAnd 5 ((some .long)) (4 * (5 - vd) + 3) 0 0 [.ref b, .int (nI vd)] (fun H => bk G b (ftL G b (fq σ vp 0)) H ∧ bk G (σ.1 0) (tpL G (σ.1 0) τ) H ∧ gLH G lo H) (some (.long (lN vT))) (fun H => bk G b (ftL G b (fq σ p2 (fe p2 w2))) H ∧ bk G (σ.1 0) (tpL G (σ.1 0) τ) H) (fun q => b ≤ q ∧ q < b + 1)

def CO (l : Launch) (G : Gt) (b : Nat) (σ τ : Sx) (lo n : Nat) : Prop := ∀ (vp vd vT p2 w2 : Nat), (σ.1 1 ≤ 40) → (∀ i, i < σ.1 1 → τ.2.1 0 i < 256) → (σ.1 0 + 1 ≤ b) → (lo ≤ b) → (vp ≤ σ.1 1) → (vd ≤ 5) → (4 * (σ.1 1 - vp) + 3 ≤ n) → (pT (mT (τ.2.1 0) (σ.1 1) 0) n 0 0 vp vd 1 = (vT, p2, w2)) → Ct l G yX3_readOr cX3_readOr 5 ((some .long)) (4 * (5 - vd) + 4) 0 0 [.ref b, .int (nI vd)] (fun H => bk G b (ftL G b (fq σ vp 0)) H ∧ bk G (σ.1 0) (tpL G (σ.1 0) τ) H ∧ gLH G lo H) (some (.long (lN vT))) (fun H => bk G b (ftL G b (fq σ p2 (fe p2 w2))) H ∧ bk G (σ.1 0) (tpL G (σ.1 0) τ) H) (fun q => b ≤ q ∧ q < b + 1)

set_option maxHeartbeats 1000000 in
set_option maxRecDepth 100000 in
theorem c_X3_readToBracket_t (l : Launch) (G : Gt) (b : Nat) (σ : Sx) (τ : Sx) (vp : Nat) (lo : Nat) (vd : Nat) (vT : Nat) (p2 : Nat) (w2 : Nat) (n : Nat) (hn40 : σ.1 1 ≤ 40) (h256 : ∀ i, i < σ.1 1 → τ.2.1 0 i < 256) (hap : σ.1 0 + 1 ≤ b) (hlo : lo ≤ b) (hp1 : vp ≤ σ.1 1) (hd1 : vd ≤ 5) (hfu : 4 * (σ.1 1 - vp) + 3 ≤ n) (hres : pT (mT (τ.2.1 0) (σ.1 1) 0) n 0 0 vp vd 1 = (vT, p2, w2)) (htk : tkB (mT (τ.2.1 0) (σ.1 1) 0) p2 w2 41 = true) (hCO : ∀ q, q < n + 1 → CO l G b σ τ lo q) (hw2 : w2 < 2) (hp2 : p2 ≤ σ.1 1) : Ct l G yX3_readToBracket cX3_readToBracket 4 ((some .long)) (4 * (5 - vd) + 5) 0 0 [.ref b, .int (nI vd)] (fun H => bk G b (ftL G b (fq σ vp 0)) H ∧ bk G (σ.1 0) (tpL G (σ.1 0) τ) H ∧ gLH G lo H) (some (.long (lN vT))) (fun H => bk G b (ftL G b (fq σ (p2 + 1) 0)) H ∧ bk G (σ.1 0) (tpL G (σ.1 0) τ) H) (fun q => b ≤ q ∧ q < b + 1) := by
  refine ct_entry [(0, .ref b), (1, .int (nI vd))] (by decide) (Nat.le_of_ble_eq_true rfl) rfl ?_
  intro zp ze zs zm za zb zt zc Q S hK hPre hin hE ls hl
  have hx := S.1
  have hb := S.2.1
  obtain ⟨hF, hTP, hLH⟩ := hPre
  have hS : va_S (fun q => b ≤ q ∧ q < b + 1) zs.heap zs.heap [] := va_S.rf
  obtain ⟨htl, htw⟩ := tkB_lt htk
  have hsg : sgM (mT (τ.2.1 0) (σ.1 1) 0) p2 = some 41 := by unfold tkB at htk; simp only [Bool.and_eq_true, decide_eq_true_eq] at htk; exact htk.2
  refine lv_aload_n hx hb dX3_readToBracket_0 rfl (lv_at hl 0 rfl) ?_
  refine lv_iload_n hx hb dX3_readToBracket_1 rfl (lv_at hl 1 rfl) ?_
  refine ctV (rest := []) S hK (hCO n (by omega) vp vd vT p2 w2 (by first | assumption | omega | decide) (by first | assumption | omega | decide) (by first | assumption | omega | decide) (by first | assumption | omega | decide) (by first | assumption | omega | decide) (by first | assumption | omega | decide) (by first | assumption | omega | decide) hres) cw_X3_20 rfl ⟨by simp only [rL]; omega, by simp only [rL]; omega⟩ ⟨Nat.le_of_ble_eq_true rfl, Nat.le_of_ble_eq_true rfl⟩ (bk.recv hK hF rfl rfl) hl.1 rfl (Nat.le_of_ble_eq_true rfl) dX3_readToBracket_2 ⟨hF, hTP, (gLH_S hLH hS (fun q h1 h2 => by omega))⟩ hS (fun _ h => by first | exact h | omega) (fun H locs hPost hz hk hS => ?_)
  obtain ⟨hF, hTP⟩ := hPost
  refine lv_lstore_n (lv' := [(2, .long (lN vT)), (0, .ref b), (1, .int (nI vd))]) hx hb dX3_readToBracket_5 rfl hl (by decide) rfl (fun ls hl => ?_)
  refine lv_aload_n hx hb dX3_readToBracket_6 rfl (lv_at hl 1 rfl) ?_
  refine kg (C := RX3) (T := TX3) (N := 4) (ci := 2) (k := 3) (v := .int (flt (fe p2 w2))) S hK rfl inX3 (by decide) q_349 dX3_readToBracket_7 hF rfl rfl ?_
  refine lv_iconst (v := (-1)) hx hb dX3_readToBracket_10 (by decide) ?_
  refine lv_icmp_ne (tgt := 23) hx hb dX3_readToBracket_11 (by decide) (fun c_11 => ?_) (fun c_11 => ?_)
  ·
    exact absurd (flt_0 c_11 (by omega)) htw
  ·
    have hw1 : ¬ w2 = 0 := flt_1 c_11 (by omega)
    have hF2 := hF
    rw [fe_1 hw1] at hF2
    replace hF := hF2
    refine lv_aload_n hx hb dX3_readToBracket_14 rfl (lv_at hl 1 rfl) ?_
    refine crV (rest := []) S hK (c_X3_next_b l G b σ τ p2 41 (by first | assumption | omega | decide) (by first | assumption | omega | decide) (by first | assumption | omega | decide) (by first | assumption | omega | decide)) cw_X3_30 rfl ⟨by simp only [rL]; omega, by simp only [rL]; omega⟩ ⟨Nat.le_of_ble_eq_true rfl, Nat.le_of_ble_eq_true rfl⟩ (bk.recv hK hF rfl rfl) hl.1 rfl (Nat.le_of_ble_eq_true rfl) dX3_readToBracket_15 ⟨hF, hTP⟩ ?_
    refine lv_bipush (v := nI 41) hx hb dX3_readToBracket_18 (by decide) ?_
    refine n_icmp_eq (tgt := 28) hx hb dX3_readToBracket_20 (by decide) (by decide) (by decide) (fun c_20 => ?_) (fun c_20 => ?_)
    ·
      refine lv_aload_n hx hb dX3_readToBracket_28 rfl (lv_at hl 1 rfl) ?_
      refine lv_dup hx hb dX3_readToBracket_29 rfl ?_
      refine kg (C := RX3) (T := TX3) (N := 4) (ci := 2) (k := 2) (v := .int (nI p2)) S hK rfl inX3 (by decide) q_348 dX3_readToBracket_30 hF rfl rfl ?_
      refine lv_iconst (v := nI 1) hx hb dX3_readToBracket_33 (by decide) ?_
      refine n_iadd hx hb dX3_readToBracket_34 ?_
      refine kp (C := RX3) (T := TX3) (N := 4) (ci := 2) (k := 2) (ty := .int) tyX3 tyX3_ok nmX3 S hK rfl inX3 (by decide) q_348 rfl dX3_readToBracket_35 rfl rfl rfl hF rfl (Nat.le_of_ble_eq_true rfl) (L1 := ftL G b (fq σ (p2 + 1) 0)) rfl hS (by first | exact ⟨by omega, by omega⟩ | omega) (fun H locs hF hS hz2 hk => ?_)
      replace hTP := hTP.kept (fun q h1 h2 => hk q (by have h3 : q < σ.1 0 + 1 := h2; omega))
      refine lv_lload_n hx hb dX3_readToBracket_38 rfl (lv_at hl 0 rfl) ?_
      exact hE _ _ _ _ _ _ (kr_l dX3_readToBracket_39) hS (by decide) (by decide) ⟨hF, hTP⟩
    ·
      exact absurd c_20 (by decide)

set_option maxHeartbeats 1000000 in
set_option maxRecDepth 100000 in
theorem c_X3_readToBracket_f (l : Launch) (G : Gt) (b : Nat) (σ : Sx) (τ : Sx) (vp : Nat) (lo : Nat) (vd : Nat) (vT : Nat) (p2 : Nat) (w2 : Nat) (n : Nat) (hn40 : σ.1 1 ≤ 40) (h256 : ∀ i, i < σ.1 1 → τ.2.1 0 i < 256) (hap : σ.1 0 + 1 ≤ b) (hlo : lo ≤ b) (hp1 : vp ≤ σ.1 1) (hd1 : vd ≤ 5) (hfu : 4 * (σ.1 1 - vp) + 3 ≤ n) (hres : pT (mT (τ.2.1 0) (σ.1 1) 0) n 0 0 vp vd 1 = (vT, p2, w2)) (htk : tkB (mT (τ.2.1 0) (σ.1 1) 0) p2 w2 41 = false) (hCO : ∀ q, q < n + 1 → CO l G b σ τ lo q) (hw2 : w2 < 2) (hp2 : p2 ≤ σ.1 1) : Ct l G yX3_readToBracket cX3_readToBracket 4 ((some .long)) (4 * (5 - vd) + 5) 0 0 [.ref b, .int (nI vd)] (fun H => bk G b (ftL G b (fq σ vp 0)) H ∧ bk G (σ.1 0) (tpL G (σ.1 0) τ) H ∧ gLH G lo H) (some (.long (lN 0))) (fun H => bk G b (ftL G b (fq σ p2 (p2 + 1))) H ∧ bk G (σ.1 0) (tpL G (σ.1 0) τ) H) (fun q => b ≤ q ∧ q < b + 1) := by
  refine ct_entry [(0, .ref b), (1, .int (nI vd))] (by decide) (Nat.le_of_ble_eq_true rfl) rfl ?_
  intro zp ze zs zm za zb zt zc Q S hK hPre hin hE ls hl
  have hx := S.1
  have hb := S.2.1
  obtain ⟨hF, hTP, hLH⟩ := hPre
  have hS : va_S (fun q => b ≤ q ∧ q < b + 1) zs.heap zs.heap [] := va_S.rf
  refine lv_aload_n hx hb dX3_readToBracket_0 rfl (lv_at hl 0 rfl) ?_
  refine lv_iload_n hx hb dX3_readToBracket_1 rfl (lv_at hl 1 rfl) ?_
  refine ctV (rest := []) S hK (hCO n (by omega) vp vd vT p2 w2 (by first | assumption | omega | decide) (by first | assumption | omega | decide) (by first | assumption | omega | decide) (by first | assumption | omega | decide) (by first | assumption | omega | decide) (by first | assumption | omega | decide) (by first | assumption | omega | decide) hres) cw_X3_20 rfl ⟨by simp only [rL]; omega, by simp only [rL]; omega⟩ ⟨Nat.le_of_ble_eq_true rfl, Nat.le_of_ble_eq_true rfl⟩ (bk.recv hK hF rfl rfl) hl.1 rfl (Nat.le_of_ble_eq_true rfl) dX3_readToBracket_2 ⟨hF, hTP, (gLH_S hLH hS (fun q h1 h2 => by omega))⟩ hS (fun _ h => by first | exact h | omega) (fun H locs hPost hz hk hS => ?_)
  obtain ⟨hF, hTP⟩ := hPost
  refine lv_lstore_n (lv' := [(2, .long (lN vT)), (0, .ref b), (1, .int (nI vd))]) hx hb dX3_readToBracket_5 rfl hl (by decide) rfl (fun ls hl => ?_)
  refine lv_aload_n hx hb dX3_readToBracket_6 rfl (lv_at hl 1 rfl) ?_
  refine kg (C := RX3) (T := TX3) (N := 4) (ci := 2) (k := 3) (v := .int (flt (fe p2 w2))) S hK rfl inX3 (by decide) q_349 dX3_readToBracket_7 hF rfl rfl ?_
  refine lv_iconst (v := (-1)) hx hb dX3_readToBracket_10 (by decide) ?_
  refine lv_icmp_ne (tgt := 23) hx hb dX3_readToBracket_11 (by decide) (fun c_11 => ?_) (fun c_11 => ?_)
  ·
    have hw0 : w2 = 0 := flt_0 c_11 (by omega)
    subst hw0
    replace hF : bk G b (ftL G b (fq σ p2 (p2 + 1))) H := hF
    refine lv_aload_n hx hb dX3_readToBracket_23 rfl (lv_at hl 1 rfl) ?_
    refine ctV (rest := []) S hK (c_X3_fail_1 l G b σ p2 (by omega)) cw_X3_37 rfl ⟨by simp only [rL]; omega, by simp only [rL]; omega⟩ ⟨Nat.le_of_ble_eq_true rfl, Nat.le_of_ble_eq_true rfl⟩ (bk.recv hK hF rfl rfl) hl.1 rfl (Nat.le_of_ble_eq_true rfl) dX3_readToBracket_24 hF hS (fun _ h => by first | exact h | omega) (fun H locs hPost hz hk hS => ?_)
    have hF := hPost
    replace hTP := hTP.over hk (fun q h1 h2 => by have h3 : q < σ.1 0 + 1 := h2; intro hA1; omega)
    exact hE _ _ _ _ _ _ (kr_l dX3_readToBracket_27) hS (by decide) (by decide) ⟨hF, hTP⟩
  ·
    have hw1 : ¬ w2 = 0 := flt_1 c_11 (by omega)
    have hF2 := hF
    rw [fe_1 hw1] at hF2
    replace hF := hF2
    refine lv_aload_n hx hb dX3_readToBracket_14 rfl (lv_at hl 1 rfl) ?_
    rcases hsg : sgM (mT (τ.2.1 0) (σ.1 1) 0) p2 with _ | vc
    ·
      refine crV (rest := []) S hK (c_X3_next_e l G b σ τ p2 (by first | assumption | omega | decide) (by first | assumption | omega | decide) (by first | assumption | omega | decide) (by first | assumption | omega | decide) (by omega)) cw_X3_30 rfl ⟨by simp only [rL]; omega, by simp only [rL]; omega⟩ ⟨Nat.le_of_ble_eq_true rfl, Nat.le_of_ble_eq_true rfl⟩ (bk.recv hK hF rfl rfl) hl.1 rfl (Nat.le_of_ble_eq_true rfl) dX3_readToBracket_15 ⟨hF, hTP⟩ ?_
      refine lv_bipush (v := nI 41) hx hb dX3_readToBracket_18 (by decide) ?_
      refine lv_icmp_eq (tgt := 28) hx hb dX3_readToBracket_20 (by decide) (fun c_20 => ?_) (fun c_20 => ?_)
      ·
        exact absurd c_20 (by decide)
      ·
        refine lv_aload_n hx hb dX3_readToBracket_23 rfl (lv_at hl 1 rfl) ?_
        refine ctV (rest := []) S hK (c_X3_fail_0 l G b σ p2 (by omega)) cw_X3_37 rfl ⟨by simp only [rL]; omega, by simp only [rL]; omega⟩ ⟨Nat.le_of_ble_eq_true rfl, Nat.le_of_ble_eq_true rfl⟩ (bk.recv hK hF rfl rfl) hl.1 rfl (Nat.le_of_ble_eq_true rfl) dX3_readToBracket_24 hF hS (fun _ h => by first | exact h | omega) (fun H locs hPost hz hk hS => ?_)
        have hF := hPost
        replace hTP := hTP.over hk (fun q h1 h2 => by have h3 : q < σ.1 0 + 1 := h2; intro hA1; omega)
        exact hE _ _ _ _ _ _ (kr_l dX3_readToBracket_27) hS (by decide) (by decide) ⟨hF, hTP⟩
    ·
      have hvc : vc < 256 := by
        have q := (sg_lt hsg).2
        rw [← q]
        have z := h256 p2 (sg_lt hsg).1
        show txM (mT (τ.2.1 0) (σ.1 1) 0) (0 + p2) < 256
        rw [Nat.zero_add]
        exact z
      refine crV (rest := []) S hK (c_X3_next_b l G b σ τ p2 vc (by first | assumption | omega | decide) (by first | assumption | omega | decide) (by first | assumption | omega | decide) (by first | assumption | omega | decide)) cw_X3_30 rfl ⟨by simp only [rL]; omega, by simp only [rL]; omega⟩ ⟨Nat.le_of_ble_eq_true rfl, Nat.le_of_ble_eq_true rfl⟩ (bk.recv hK hF rfl rfl) hl.1 rfl (Nat.le_of_ble_eq_true rfl) dX3_readToBracket_15 ⟨hF, hTP⟩ ?_
      refine lv_bipush (v := nI 41) hx hb dX3_readToBracket_18 (by decide) ?_
      refine n_icmp_eq (tgt := 28) hx hb dX3_readToBracket_20 (by decide) (by omega) (by decide) (fun c_20 => ?_) (fun c_20 => ?_)
      ·
        exact absurd htk (by rw [c_20] at hsg; rw [tk_y hsg hw1]; decide)
      ·
        refine lv_aload_n hx hb dX3_readToBracket_23 rfl (lv_at hl 1 rfl) ?_
        refine ctV (rest := []) S hK (c_X3_fail_0 l G b σ p2 (by omega)) cw_X3_37 rfl ⟨by simp only [rL]; omega, by simp only [rL]; omega⟩ ⟨Nat.le_of_ble_eq_true rfl, Nat.le_of_ble_eq_true rfl⟩ (bk.recv hK hF rfl rfl) hl.1 rfl (Nat.le_of_ble_eq_true rfl) dX3_readToBracket_24 hF hS (fun _ h => by first | exact h | omega) (fun H locs hPost hz hk hS => ?_)
        have hF := hPost
        replace hTP := hTP.over hk (fun q h1 h2 => by have h3 : q < σ.1 0 + 1 := h2; intro hA1; omega)
        exact hE _ _ _ _ _ _ (kr_l dX3_readToBracket_27) hS (by decide) (by decide) ⟨hF, hTP⟩

set_option maxHeartbeats 1000000 in
set_option maxRecDepth 100000 in
theorem s_X3_readUnit (l : Launch) (G : Gt) (b : Nat) (σ : Sx) (τ : Sx) (vp : Nat) (lo : Nat) (vd : Nat) (vT : Nat) (p2 : Nat) (w2 : Nat) (n : Nat) (hn40 : σ.1 1 ≤ 40) (h256 : ∀ i, i < σ.1 1 → τ.2.1 0 i < 256) (hap : σ.1 0 + 1 ≤ b) (hlo : lo ≤ b) (hp1 : vp ≤ σ.1 1) (hd1 : vd ≤ 5) (hfu : 4 * (σ.1 1 - vp) + 1 ≤ n) (hres : pT (mT (τ.2.1 0) (σ.1 1) 0) n 2 0 vp vd 1 = (vT, p2, w2)) (hCU : ∀ q, q < n → CU l G b σ τ lo q) (hCO : ∀ q, q < n → CO l G b σ τ lo q) : Ct l G yX3_readUnit cX3_readUnit 4 ((some .long)) (4 * (5 - vd) + 2) 0 0 [.ref b, .int (nI vd)] (fun H => bk G b (ftL G b (fq σ vp 0)) H ∧ bk G (σ.1 0) (tpL G (σ.1 0) τ) H ∧ gLH G lo H) (some (.long (lN vT))) (fun H => bk G b (ftL G b (fq σ p2 (fe p2 w2))) H ∧ bk G (σ.1 0) (tpL G (σ.1 0) τ) H) (fun q => b ≤ q ∧ q < b + 1) := by
  refine ct_entry [(0, .ref b), (1, .int (nI vd))] (by decide) (Nat.le_of_ble_eq_true rfl) rfl ?_
  intro zp ze zs zm za zb zt zc Q S hK hPre hin hE ls hl
  have hx := S.1
  have hb := S.2.1
  obtain ⟨hF, hTP, hLH⟩ := hPre
  have hS : va_S (fun q => b ≤ q ∧ q < b + 1) zs.heap zs.heap [] := va_S.rf
  obtain ⟨k, rfl⟩ : ∃ k, n = k + 1 := ⟨n - 1, by omega⟩
  refine lv_aload_n hx hb dX3_readUnit_0 rfl (lv_at hl 0 rfl) ?_
  rcases hsg : sgM (mT (τ.2.1 0) (σ.1 1) 0) vp with _ | vc
  ·
    refine crV (rest := []) S hK (c_X3_next_e l G b σ τ vp (by first | assumption | omega | decide) (by first | assumption | omega | decide) (by first | assumption | omega | decide) (by first | assumption | omega | decide) (by omega)) cw_X3_30 rfl ⟨by simp only [rL]; omega, by simp only [rL]; omega⟩ ⟨Nat.le_of_ble_eq_true rfl, Nat.le_of_ble_eq_true rfl⟩ (bk.recv hK hF rfl rfl) hl.1 rfl (Nat.le_of_ble_eq_true rfl) dX3_readUnit_1 ⟨hF, hTP⟩ ?_
    refine lv_istore_n (lv' := [(2, .int (-1)), (0, .ref b), (1, .int (nI vd))]) hx hb dX3_readUnit_4 rfl hl (by decide) rfl (fun ls hl => ?_)
    refine lv_iload_n hx hb dX3_readUnit_5 rfl (lv_at hl 0 rfl) ?_
    refine lv_bipush (v := nI 33) hx hb dX3_readUnit_6 (by decide) ?_
    refine lv_icmp_eq (tgt := 17) hx hb dX3_readUnit_8 (by decide) (fun c_8 => ?_) (fun c_8 => ?_)
    ·
      exact absurd c_8 (by decide)
    ·
      refine lv_iload_n hx hb dX3_readUnit_11 rfl (lv_at hl 0 rfl) ?_
      refine lv_bipush (v := nI 40) hx hb dX3_readUnit_12 (by decide) ?_
      refine lv_icmp_ne (tgt := 69) hx hb dX3_readUnit_14 (by decide) (fun c_14 => ?_) (fun c_14 => ?_)
      ·
        refine lv_iload_n hx hb dX3_readUnit_69 rfl (lv_at hl 0 rfl) ?_
        refine lv_bipush (v := nI 97) hx hb dX3_readUnit_70 (by decide) ?_
        refine lv_isub hx hb dX3_readUnit_72 ?_
        refine w_top (v' := .int (-98)) rfl ?_
        refine lv_istore_n (lv' := [(3, .int (-98)), (2, .int (-1)), (0, .ref b), (1, .int (nI vd))]) hx hb dX3_readUnit_73 rfl hl (by decide) rfl (fun ls hl => ?_)
        refine lv_iload_n hx hb dX3_readUnit_74 rfl (lv_at hl 0 rfl) ?_
        refine lv_if_lt (tgt := 102) hx hb dX3_readUnit_75 (by decide) (fun c_75 => ?_) (fun c_75 => ?_)
        ·
          refine lv_iload_n hx hb dX3_readUnit_102 rfl (lv_at hl 1 rfl) ?_
          refine lv_bipush (v := nI 48) hx hb dX3_readUnit_103 (by decide) ?_
          refine lv_icmp_eq (tgt := 119) hx hb dX3_readUnit_105 (by decide) (fun c_105 => ?_) (fun c_105 => ?_)
          ·
            exact absurd c_105 (by decide)
          ·
            refine lv_iload_n hx hb dX3_readUnit_108 rfl (lv_at hl 1 rfl) ?_
            refine lv_bipush (v := nI 49) hx hb dX3_readUnit_109 (by decide) ?_
            refine lv_icmp_eq (tgt := 119) hx hb dX3_readUnit_111 (by decide) (fun c_111 => ?_) (fun c_111 => ?_)
            ·
              exact absurd c_111 (by decide)
            ·
              refine lv_aload_n hx hb dX3_readUnit_114 rfl (lv_at hl 2 rfl) ?_
              refine ctV (rest := []) S hK (c_X3_fail_0 l G b σ vp (by omega)) cw_X3_37 rfl ⟨by simp only [rL]; omega, by simp only [rL]; omega⟩ ⟨Nat.le_of_ble_eq_true rfl, Nat.le_of_ble_eq_true rfl⟩ (bk.recv hK hF rfl rfl) hl.1 rfl (Nat.le_of_ble_eq_true rfl) dX3_readUnit_115 hF hS (fun _ h => by first | exact h | omega) (fun H locs hPost hz hk hS => ?_)
              have hF := hPost
              replace hTP := hTP.over hk (fun q h1 h2 => by have h3 : q < σ.1 0 + 1 := h2; intro hA1; omega)
              obtain ⟨e1, e2, e3⟩ := q3 hres (by first | exact tU_e hsg | exact tU_x hsg (by omega) (by omega) (by omega) (by omega) (by omega))
              subst e1
              subst e2
              subst e3
              replace hF := bk_eq hF (show ftL G b (fq σ vp (vp + 1)) = ftL G b (fq σ vp (fe vp 0)) from rfl)
              exact hE _ _ _ _ _ _ (kr_l dX3_readUnit_118) hS (by decide) (by decide) ⟨hF, hTP⟩
        ·
          exact absurd c_75 (by decide)
      ·
        exact absurd c_14 (by decide)
  ·
    have hvc : vc < 256 := by
      have q := (sg_lt hsg).2
      rw [← q]
      have z := h256 vp (sg_lt hsg).1
      show txM (mT (τ.2.1 0) (σ.1 1) 0) (0 + vp) < 256
      rw [Nat.zero_add]
      exact z
    have hvp : vp < σ.1 1 := (sg_lt hsg).1
    refine crV (rest := []) S hK (c_X3_next_b l G b σ τ vp vc (by first | assumption | omega | decide) (by first | assumption | omega | decide) (by first | assumption | omega | decide) (by first | assumption | omega | decide)) cw_X3_30 rfl ⟨by simp only [rL]; omega, by simp only [rL]; omega⟩ ⟨Nat.le_of_ble_eq_true rfl, Nat.le_of_ble_eq_true rfl⟩ (bk.recv hK hF rfl rfl) hl.1 rfl (Nat.le_of_ble_eq_true rfl) dX3_readUnit_1 ⟨hF, hTP⟩ ?_
    refine lv_istore_n (lv' := [(2, .int (nI vc)), (0, .ref b), (1, .int (nI vd))]) hx hb dX3_readUnit_4 rfl hl (by decide) rfl (fun ls hl => ?_)
    refine lv_iload_n hx hb dX3_readUnit_5 rfl (lv_at hl 0 rfl) ?_
    refine lv_bipush (v := nI 33) hx hb dX3_readUnit_6 (by decide) ?_
    refine n_icmp_eq (tgt := 17) hx hb dX3_readUnit_8 (by decide) (by first | omega | assumption) (by decide) (fun c_8 => ?_) (fun c_8 => ?_)
    ·
      subst c_8
      refine lv_iload_n hx hb dX3_readUnit_17 rfl (lv_at hl 2 rfl) ?_
      refine lv_iconst (v := nI 5) hx hb dX3_readUnit_18 (by decide) ?_
      refine n_icmp_lt (tgt := 27) hx hb dX3_readUnit_19 (by decide) (by first | omega | assumption) (by decide) (fun c_19 => ?_) (fun c_19 => ?_)
      ·
        have c_19x : ¬ vd = 5 := by omega
        refine lv_aload_n hx hb dX3_readUnit_27 rfl (lv_at hl 1 rfl) ?_
        refine lv_dup hx hb dX3_readUnit_28 rfl ?_
        refine kg (C := RX3) (T := TX3) (N := 4) (ci := 2) (k := 2) (v := .int (nI vp)) S hK rfl inX3 (by decide) q_348 dX3_readUnit_29 hF rfl rfl ?_
        refine lv_iconst (v := nI 1) hx hb dX3_readUnit_32 (by decide) ?_
        refine n_iadd hx hb dX3_readUnit_33 ?_
        refine kp (C := RX3) (T := TX3) (N := 4) (ci := 2) (k := 2) (ty := .int) tyX3 tyX3_ok nmX3 S hK rfl inX3 (by decide) q_348 rfl dX3_readUnit_34 rfl rfl rfl hF rfl (Nat.le_of_ble_eq_true rfl) (L1 := ftL G b (fq σ (vp + 1) 0)) rfl hS (by first | exact ⟨by omega, by omega⟩ | omega) (fun H locs hF hS hz2 hk => ?_)
        replace hTP := hTP.kept (fun q h1 h2 => hk q (by have h3 : q < σ.1 0 + 1 := h2; omega))
        refine lv_iload_n hx hb dX3_readUnit_37 rfl (lv_at hl 0 rfl) ?_
        refine lv_bipush (v := nI 33) hx hb dX3_readUnit_38 (by decide) ?_
        refine n_icmp_ne (tgt := 61) hx hb dX3_readUnit_40 (by decide) (by decide) (by decide) (fun c_40 => ?_) (fun c_40 => ?_)
        ·
          exact absurd c_40 (by decide)
        ·
          refine lv_ldc2 (v := lN 4294967295) hx hb S.2.2.2.1 (S.2.2.2.2 _ q_384) dX3_readUnit_43 ?_
          refine lv_aload_n hx hb dX3_readUnit_46 rfl (lv_at hl 1 rfl) ?_
          refine lv_iload_n hx hb dX3_readUnit_47 rfl (lv_at hl 2 rfl) ?_
          refine lv_iconst (v := nI 1) hx hb dX3_readUnit_48 (by decide) ?_
          refine n_iadd hx hb dX3_readUnit_49 ?_
          rcases hq3 : pT (mT (τ.2.1 0) (σ.1 1) 0) k 2 0 (vp + 1) (vd + 1) 1 with ⟨T3, p3, w3⟩
          obtain ⟨m31, m32, m33, m34⟩ := pT_k hq3 (show vp + 1 ≤ σ.1 1 by omega) (by decide) (by decide)
          replace m32 : p3 ≤ σ.1 1 := m32
          refine ctV (rest := [.long (lN 4294967295)]) S hK (hCU k (by omega) (vp + 1) (vd + 1) T3 p3 w3 (by first | assumption | omega | decide) (by first | assumption | omega | decide) (by first | assumption | omega | decide) (by first | assumption | omega | decide) (by first | assumption | omega | decide) (by first | assumption | omega | decide) (by first | assumption | omega | decide) hq3) cw_X3_34 rfl ⟨by simp only [rL]; omega, by simp only [rL]; omega⟩ ⟨Nat.le_of_ble_eq_true rfl, Nat.le_of_ble_eq_true rfl⟩ (bk.recv hK hF rfl rfl) hl.1 rfl (Nat.le_of_ble_eq_true rfl) dX3_readUnit_50 ⟨hF, hTP, (gLH_S hLH hS (fun q h1 h2 => by omega))⟩ hS (fun _ h => by first | exact h | omega) (fun H locs hPost hz hk hS => ?_)
          obtain ⟨hF, hTP⟩ := hPost
          refine lv_ldc2 (v := (-1)) hx hb S.2.2.2.1 (S.2.2.2.2 _ q_385) dX3_readUnit_53 ?_
          refine lv_lxor hx hb dX3_readUnit_56 ?_
          refine n_landn hx hb dX3_readUnit_57 ?_
          refine lv_goto (tgt := 68) hx hb dX3_readUnit_58 (by decide) ?_
          obtain ⟨e1, e2, e3⟩ := q3 hres (tU_n hsg c_19x hq3)
          subst e1
          subst e2
          subst e3
          refine w_top (v' := .long (lN (andn 4294967295 T3))) (congrArg (fun z => Value.long (lN z)) (show (andn 4294967295 T3) = (andn 4294967295 T3) from by first | rfl | omega)) ?_
          exact hE _ _ _ _ _ _ (kr_l dX3_readUnit_68) hS (by decide) (by decide) ⟨hF, hTP⟩
      ·
        refine lv_aload_n hx hb dX3_readUnit_22 rfl (lv_at hl 1 rfl) ?_
        refine ctV (rest := []) S hK (c_X3_fail_0 l G b σ vp (by omega)) cw_X3_37 rfl ⟨by simp only [rL]; omega, by simp only [rL]; omega⟩ ⟨Nat.le_of_ble_eq_true rfl, Nat.le_of_ble_eq_true rfl⟩ (bk.recv hK hF rfl rfl) hl.1 rfl (Nat.le_of_ble_eq_true rfl) dX3_readUnit_23 hF hS (fun _ h => by first | exact h | omega) (fun H locs hPost hz hk hS => ?_)
        have hF := hPost
        replace hTP := hTP.over hk (fun q h1 h2 => by have h3 : q < σ.1 0 + 1 := h2; intro hA1; omega)
        obtain ⟨e1, e2, e3⟩ := q3 hres (tU_5 hsg (by omega) (by omega))
        subst e1
        subst e2
        subst e3
        replace hF := bk_eq hF (show ftL G b (fq σ vp (vp + 1)) = ftL G b (fq σ vp (fe vp 0)) from rfl)
        exact hE _ _ _ _ _ _ (kr_l dX3_readUnit_26) hS (by decide) (by decide) ⟨hF, hTP⟩
    ·
      refine lv_iload_n hx hb dX3_readUnit_11 rfl (lv_at hl 0 rfl) ?_
      refine lv_bipush (v := nI 40) hx hb dX3_readUnit_12 (by decide) ?_
      refine n_icmp_ne (tgt := 69) hx hb dX3_readUnit_14 (by decide) (by first | omega | assumption) (by decide) (fun c_14 => ?_) (fun c_14 => ?_)
      ·
        refine lv_iload_n hx hb dX3_readUnit_69 rfl (lv_at hl 0 rfl) ?_
        refine lv_bipush (v := nI 97) hx hb dX3_readUnit_70 (by decide) ?_
        refine lv_isub hx hb dX3_readUnit_72 ?_
        refine lv_istore_n (lv' := [(3, .int ((nI vc) - (nI 97))), (2, .int (nI vc)), (0, .ref b), (1, .int (nI vd))]) hx hb dX3_readUnit_73 rfl hl (by decide) rfl (fun ls hl => ?_)
        refine lv_iload_n hx hb dX3_readUnit_74 rfl (lv_at hl 0 rfl) ?_
        refine lv_if_lt (tgt := 102) hx hb dX3_readUnit_75 (by decide) (fun c_75 => ?_) (fun c_75 => ?_)
        ·
          have h97 : vc < 97 := (fl97 vc hvc).mp c_75
          refine lv_iload_n hx hb dX3_readUnit_102 rfl (lv_at hl 1 rfl) ?_
          refine lv_bipush (v := nI 48) hx hb dX3_readUnit_103 (by decide) ?_
          refine n_icmp_eq (tgt := 119) hx hb dX3_readUnit_105 (by decide) (by first | omega | assumption) (by decide) (fun c_105 => ?_) (fun c_105 => ?_)
          ·
            subst c_105
            refine lv_aload_n hx hb dX3_readUnit_119 rfl (lv_at hl 2 rfl) ?_
            refine lv_dup hx hb dX3_readUnit_120 rfl ?_
            refine kg (C := RX3) (T := TX3) (N := 4) (ci := 2) (k := 2) (v := .int (nI vp)) S hK rfl inX3 (by decide) q_348 dX3_readUnit_121 hF rfl rfl ?_
            refine lv_iconst (v := nI 1) hx hb dX3_readUnit_124 (by decide) ?_
            refine n_iadd hx hb dX3_readUnit_125 ?_
            refine kp (C := RX3) (T := TX3) (N := 4) (ci := 2) (k := 2) (ty := .int) tyX3 tyX3_ok nmX3 S hK rfl inX3 (by decide) q_348 rfl dX3_readUnit_126 rfl rfl rfl hF rfl (Nat.le_of_ble_eq_true rfl) (L1 := ftL G b (fq σ (vp + 1) 0)) rfl hS (by first | exact ⟨by omega, by omega⟩ | omega) (fun H locs hF hS hz2 hk => ?_)
            replace hTP := hTP.kept (fun q h1 h2 => hk q (by have h3 : q < σ.1 0 + 1 := h2; omega))
            refine lv_iload_n hx hb dX3_readUnit_129 rfl (lv_at hl 1 rfl) ?_
            refine lv_bipush (v := nI 49) hx hb dX3_readUnit_130 (by decide) ?_
            refine n_icmp_ne (tgt := 141) hx hb dX3_readUnit_132 (by decide) (by decide) (by decide) (fun c_132 => ?_) (fun c_132 => ?_)
            ·
              refine lv_lconst (v := lN 0) hx hb dX3_readUnit_141 (by decide) ?_
              obtain ⟨e1, e2, e3⟩ := q3 hres (tU_l hsg (by omega))
              subst e1
              subst e2
              subst e3
              refine w_top (v' := .long (lN (ltT 48))) (congrArg (fun z => Value.long (lN z)) (show 0 = (ltT 48) from rfl)) ?_
              replace hF := bk_eq hF (show ftL G b (fq σ (vp + 1) 0) = ftL G b (fq σ (vp + 1) (fe (vp + 1) 1)) from rfl)
              exact hE _ _ _ _ _ _ (kr_l dX3_readUnit_142) hS (by decide) (by decide) ⟨hF, hTP⟩
            ·
              exact absurd c_132 (by decide)
          ·
            refine lv_iload_n hx hb dX3_readUnit_108 rfl (lv_at hl 1 rfl) ?_
            refine lv_bipush (v := nI 49) hx hb dX3_readUnit_109 (by decide) ?_
            refine n_icmp_eq (tgt := 119) hx hb dX3_readUnit_111 (by decide) (by first | omega | assumption) (by decide) (fun c_111 => ?_) (fun c_111 => ?_)
            ·
              subst c_111
              refine lv_aload_n hx hb dX3_readUnit_119 rfl (lv_at hl 2 rfl) ?_
              refine lv_dup hx hb dX3_readUnit_120 rfl ?_
              refine kg (C := RX3) (T := TX3) (N := 4) (ci := 2) (k := 2) (v := .int (nI vp)) S hK rfl inX3 (by decide) q_348 dX3_readUnit_121 hF rfl rfl ?_
              refine lv_iconst (v := nI 1) hx hb dX3_readUnit_124 (by decide) ?_
              refine n_iadd hx hb dX3_readUnit_125 ?_
              refine kp (C := RX3) (T := TX3) (N := 4) (ci := 2) (k := 2) (ty := .int) tyX3 tyX3_ok nmX3 S hK rfl inX3 (by decide) q_348 rfl dX3_readUnit_126 rfl rfl rfl hF rfl (Nat.le_of_ble_eq_true rfl) (L1 := ftL G b (fq σ (vp + 1) 0)) rfl hS (by first | exact ⟨by omega, by omega⟩ | omega) (fun H locs hF hS hz2 hk => ?_)
              replace hTP := hTP.kept (fun q h1 h2 => hk q (by have h3 : q < σ.1 0 + 1 := h2; omega))
              refine lv_iload_n hx hb dX3_readUnit_129 rfl (lv_at hl 1 rfl) ?_
              refine lv_bipush (v := nI 49) hx hb dX3_readUnit_130 (by decide) ?_
              refine n_icmp_ne (tgt := 141) hx hb dX3_readUnit_132 (by decide) (by decide) (by decide) (fun c_132 => ?_) (fun c_132 => ?_)
              ·
                exact absurd c_132 (by decide)
              ·
                refine lv_ldc2 (v := lN 4294967295) hx hb S.2.2.2.1 (S.2.2.2.2 _ q_384) dX3_readUnit_135 ?_
                refine lv_goto (tgt := 142) hx hb dX3_readUnit_138 (by decide) ?_
                obtain ⟨e1, e2, e3⟩ := q3 hres (tU_l hsg (by omega))
                subst e1
                subst e2
                subst e3
                refine w_top (v' := .long (lN (ltT 49))) (congrArg (fun z => Value.long (lN z)) (show 4294967295 = (ltT 49) from rfl)) ?_
                replace hF := bk_eq hF (show ftL G b (fq σ (vp + 1) 0) = ftL G b (fq σ (vp + 1) (fe (vp + 1) 1)) from rfl)
                exact hE _ _ _ _ _ _ (kr_l dX3_readUnit_142) hS (by decide) (by decide) ⟨hF, hTP⟩
            ·
              refine lv_aload_n hx hb dX3_readUnit_114 rfl (lv_at hl 2 rfl) ?_
              refine ctV (rest := []) S hK (c_X3_fail_0 l G b σ vp (by omega)) cw_X3_37 rfl ⟨by simp only [rL]; omega, by simp only [rL]; omega⟩ ⟨Nat.le_of_ble_eq_true rfl, Nat.le_of_ble_eq_true rfl⟩ (bk.recv hK hF rfl rfl) hl.1 rfl (Nat.le_of_ble_eq_true rfl) dX3_readUnit_115 hF hS (fun _ h => by first | exact h | omega) (fun H locs hPost hz hk hS => ?_)
              have hF := hPost
              replace hTP := hTP.over hk (fun q h1 h2 => by have h3 : q < σ.1 0 + 1 := h2; intro hA1; omega)
              obtain ⟨e1, e2, e3⟩ := q3 hres (by first | exact tU_e hsg | exact tU_x hsg (by omega) (by omega) (by omega) (by omega) (by omega))
              subst e1
              subst e2
              subst e3
              replace hF := bk_eq hF (show ftL G b (fq σ vp (vp + 1)) = ftL G b (fq σ vp (fe vp 0)) from rfl)
              exact hE _ _ _ _ _ _ (kr_l dX3_readUnit_118) hS (by decide) (by decide) ⟨hF, hTP⟩
        ·
          have h97 : 97 ≤ vc := by
            rcases Nat.lt_or_ge vc 97 with q | q
            · exact absurd ((fl97 vc hvc).mpr q) c_75
            · exact q
          replace hl := lv_eq 0 hl rfl (v2 := .int (nI (vc - 97))) (congrArg (fun z => Value.int z) (nI_subN h97 (by omega)))
          refine lv_iload_n hx hb dX3_readUnit_78 rfl (lv_at hl 0 rfl) ?_
          refine k_gets S hK hLH hS (fun q h1 h2 => by omega) q_390 dX3_readUnit_79 ?_
          refine k_slen S hK hLH hS (fun q h1 h2 => by omega) dX3_readUnit_82 ?_
          refine n_icmp_ge (tgt := 102) hx hb dX3_readUnit_83 (by decide) (by first | omega | assumption) (by decide) (fun c_83 => ?_) (fun c_83 => ?_)
          ·
            refine lv_iload_n hx hb dX3_readUnit_102 rfl (lv_at hl 1 rfl) ?_
            refine lv_bipush (v := nI 48) hx hb dX3_readUnit_103 (by decide) ?_
            refine n_icmp_eq (tgt := 119) hx hb dX3_readUnit_105 (by decide) (by first | omega | assumption) (by decide) (fun c_105 => ?_) (fun c_105 => ?_)
            ·
              subst c_105
              refine lv_aload_n hx hb dX3_readUnit_119 rfl (lv_at hl 2 rfl) ?_
              refine lv_dup hx hb dX3_readUnit_120 rfl ?_
              refine kg (C := RX3) (T := TX3) (N := 4) (ci := 2) (k := 2) (v := .int (nI vp)) S hK rfl inX3 (by decide) q_348 dX3_readUnit_121 hF rfl rfl ?_
              refine lv_iconst (v := nI 1) hx hb dX3_readUnit_124 (by decide) ?_
              refine n_iadd hx hb dX3_readUnit_125 ?_
              refine kp (C := RX3) (T := TX3) (N := 4) (ci := 2) (k := 2) (ty := .int) tyX3 tyX3_ok nmX3 S hK rfl inX3 (by decide) q_348 rfl dX3_readUnit_126 rfl rfl rfl hF rfl (Nat.le_of_ble_eq_true rfl) (L1 := ftL G b (fq σ (vp + 1) 0)) rfl hS (by first | exact ⟨by omega, by omega⟩ | omega) (fun H locs hF hS hz2 hk => ?_)
              replace hTP := hTP.kept (fun q h1 h2 => hk q (by have h3 : q < σ.1 0 + 1 := h2; omega))
              refine lv_iload_n hx hb dX3_readUnit_129 rfl (lv_at hl 1 rfl) ?_
              refine lv_bipush (v := nI 49) hx hb dX3_readUnit_130 (by decide) ?_
              refine n_icmp_ne (tgt := 141) hx hb dX3_readUnit_132 (by decide) (by decide) (by decide) (fun c_132 => ?_) (fun c_132 => ?_)
              ·
                refine lv_lconst (v := lN 0) hx hb dX3_readUnit_141 (by decide) ?_
                obtain ⟨e1, e2, e3⟩ := q3 hres (tU_l hsg (by omega))
                subst e1
                subst e2
                subst e3
                refine w_top (v' := .long (lN (ltT 48))) (congrArg (fun z => Value.long (lN z)) (show 0 = (ltT 48) from rfl)) ?_
                replace hF := bk_eq hF (show ftL G b (fq σ (vp + 1) 0) = ftL G b (fq σ (vp + 1) (fe (vp + 1) 1)) from rfl)
                exact hE _ _ _ _ _ _ (kr_l dX3_readUnit_142) hS (by decide) (by decide) ⟨hF, hTP⟩
              ·
                exact absurd c_132 (by decide)
            ·
              refine lv_iload_n hx hb dX3_readUnit_108 rfl (lv_at hl 1 rfl) ?_
              refine lv_bipush (v := nI 49) hx hb dX3_readUnit_109 (by decide) ?_
              refine n_icmp_eq (tgt := 119) hx hb dX3_readUnit_111 (by decide) (by first | omega | assumption) (by decide) (fun c_111 => ?_) (fun c_111 => ?_)
              ·
                subst c_111
                refine lv_aload_n hx hb dX3_readUnit_119 rfl (lv_at hl 2 rfl) ?_
                refine lv_dup hx hb dX3_readUnit_120 rfl ?_
                refine kg (C := RX3) (T := TX3) (N := 4) (ci := 2) (k := 2) (v := .int (nI vp)) S hK rfl inX3 (by decide) q_348 dX3_readUnit_121 hF rfl rfl ?_
                refine lv_iconst (v := nI 1) hx hb dX3_readUnit_124 (by decide) ?_
                refine n_iadd hx hb dX3_readUnit_125 ?_
                refine kp (C := RX3) (T := TX3) (N := 4) (ci := 2) (k := 2) (ty := .int) tyX3 tyX3_ok nmX3 S hK rfl inX3 (by decide) q_348 rfl dX3_readUnit_126 rfl rfl rfl hF rfl (Nat.le_of_ble_eq_true rfl) (L1 := ftL G b (fq σ (vp + 1) 0)) rfl hS (by first | exact ⟨by omega, by omega⟩ | omega) (fun H locs hF hS hz2 hk => ?_)
                replace hTP := hTP.kept (fun q h1 h2 => hk q (by have h3 : q < σ.1 0 + 1 := h2; omega))
                refine lv_iload_n hx hb dX3_readUnit_129 rfl (lv_at hl 1 rfl) ?_
                refine lv_bipush (v := nI 49) hx hb dX3_readUnit_130 (by decide) ?_
                refine n_icmp_ne (tgt := 141) hx hb dX3_readUnit_132 (by decide) (by decide) (by decide) (fun c_132 => ?_) (fun c_132 => ?_)
                ·
                  exact absurd c_132 (by decide)
                ·
                  refine lv_ldc2 (v := lN 4294967295) hx hb S.2.2.2.1 (S.2.2.2.2 _ q_384) dX3_readUnit_135 ?_
                  refine lv_goto (tgt := 142) hx hb dX3_readUnit_138 (by decide) ?_
                  obtain ⟨e1, e2, e3⟩ := q3 hres (tU_l hsg (by omega))
                  subst e1
                  subst e2
                  subst e3
                  refine w_top (v' := .long (lN (ltT 49))) (congrArg (fun z => Value.long (lN z)) (show 4294967295 = (ltT 49) from rfl)) ?_
                  replace hF := bk_eq hF (show ftL G b (fq σ (vp + 1) 0) = ftL G b (fq σ (vp + 1) (fe (vp + 1) 1)) from rfl)
                  exact hE _ _ _ _ _ _ (kr_l dX3_readUnit_142) hS (by decide) (by decide) ⟨hF, hTP⟩
              ·
                refine lv_aload_n hx hb dX3_readUnit_114 rfl (lv_at hl 2 rfl) ?_
                refine ctV (rest := []) S hK (c_X3_fail_0 l G b σ vp (by omega)) cw_X3_37 rfl ⟨by simp only [rL]; omega, by simp only [rL]; omega⟩ ⟨Nat.le_of_ble_eq_true rfl, Nat.le_of_ble_eq_true rfl⟩ (bk.recv hK hF rfl rfl) hl.1 rfl (Nat.le_of_ble_eq_true rfl) dX3_readUnit_115 hF hS (fun _ h => by first | exact h | omega) (fun H locs hPost hz hk hS => ?_)
                have hF := hPost
                replace hTP := hTP.over hk (fun q h1 h2 => by have h3 : q < σ.1 0 + 1 := h2; intro hA1; omega)
                obtain ⟨e1, e2, e3⟩ := q3 hres (by first | exact tU_e hsg | exact tU_x hsg (by omega) (by omega) (by omega) (by omega) (by omega))
                subst e1
                subst e2
                subst e3
                replace hF := bk_eq hF (show ftL G b (fq σ vp (vp + 1)) = ftL G b (fq σ vp (fe vp 0)) from rfl)
                exact hE _ _ _ _ _ _ (kr_l dX3_readUnit_118) hS (by decide) (by decide) ⟨hF, hTP⟩
          ·
            refine lv_aload_n hx hb dX3_readUnit_86 rfl (lv_at hl 2 rfl) ?_
            refine lv_dup hx hb dX3_readUnit_87 rfl ?_
            refine kg (C := RX3) (T := TX3) (N := 4) (ci := 2) (k := 2) (v := .int (nI vp)) S hK rfl inX3 (by decide) q_348 dX3_readUnit_88 hF rfl rfl ?_
            refine lv_iconst (v := nI 1) hx hb dX3_readUnit_91 (by decide) ?_
            refine n_iadd hx hb dX3_readUnit_92 ?_
            refine kp (C := RX3) (T := TX3) (N := 4) (ci := 2) (k := 2) (ty := .int) tyX3 tyX3_ok nmX3 S hK rfl inX3 (by decide) q_348 rfl dX3_readUnit_93 rfl rfl rfl hF rfl (Nat.le_of_ble_eq_true rfl) (L1 := ftL G b (fq σ (vp + 1) 0)) rfl hS (by first | exact ⟨by omega, by omega⟩ | omega) (fun H locs hF hS hz2 hk => ?_)
            replace hTP := hTP.kept (fun q h1 h2 => hk q (by have h3 : q < σ.1 0 + 1 := h2; omega))
            refine k_gets S hK hLH hS (fun q h1 h2 => by omega) q_390 dX3_readUnit_96 ?_
            refine lv_iload_n hx hb dX3_readUnit_99 rfl (lv_at hl 0 rfl) ?_
            refine k_sld S hK hLH hS (fun q h1 h2 => by omega) dX3_readUnit_100 (by first | omega | assumption) ?_
            obtain ⟨e1, e2, e3⟩ := q3 hres (tU_l hsg (by omega))
            subst e1
            subst e2
            subst e3
            refine w_top (v' := .long (lN (ltT vc))) (congrArg (fun z => Value.long (lN z)) (show (ltW (vc - 97)) = (ltT vc) from by unfold ltT; rw [if_neg (by omega), if_neg (by omega)])) ?_
            replace hF := bk_eq hF (show ftL G b (fq σ (vp + 1) 0) = ftL G b (fq σ (vp + 1) (fe (vp + 1) 1)) from rfl)
            exact hE _ _ _ _ _ _ (kr_l dX3_readUnit_101) hS (by decide) (by decide) ⟨hF, hTP⟩
      ·
        subst c_14
        refine lv_iload_n hx hb dX3_readUnit_17 rfl (lv_at hl 2 rfl) ?_
        refine lv_iconst (v := nI 5) hx hb dX3_readUnit_18 (by decide) ?_
        refine n_icmp_lt (tgt := 27) hx hb dX3_readUnit_19 (by decide) (by first | omega | assumption) (by decide) (fun c_19 => ?_) (fun c_19 => ?_)
        ·
          have c_19x : ¬ vd = 5 := by omega
          refine lv_aload_n hx hb dX3_readUnit_27 rfl (lv_at hl 1 rfl) ?_
          refine lv_dup hx hb dX3_readUnit_28 rfl ?_
          refine kg (C := RX3) (T := TX3) (N := 4) (ci := 2) (k := 2) (v := .int (nI vp)) S hK rfl inX3 (by decide) q_348 dX3_readUnit_29 hF rfl rfl ?_
          refine lv_iconst (v := nI 1) hx hb dX3_readUnit_32 (by decide) ?_
          refine n_iadd hx hb dX3_readUnit_33 ?_
          refine kp (C := RX3) (T := TX3) (N := 4) (ci := 2) (k := 2) (ty := .int) tyX3 tyX3_ok nmX3 S hK rfl inX3 (by decide) q_348 rfl dX3_readUnit_34 rfl rfl rfl hF rfl (Nat.le_of_ble_eq_true rfl) (L1 := ftL G b (fq σ (vp + 1) 0)) rfl hS (by first | exact ⟨by omega, by omega⟩ | omega) (fun H locs hF hS hz2 hk => ?_)
          replace hTP := hTP.kept (fun q h1 h2 => hk q (by have h3 : q < σ.1 0 + 1 := h2; omega))
          refine lv_iload_n hx hb dX3_readUnit_37 rfl (lv_at hl 0 rfl) ?_
          refine lv_bipush (v := nI 33) hx hb dX3_readUnit_38 (by decide) ?_
          refine n_icmp_ne (tgt := 61) hx hb dX3_readUnit_40 (by decide) (by decide) (by decide) (fun c_40 => ?_) (fun c_40 => ?_)
          ·
            refine lv_aload_n hx hb dX3_readUnit_61 rfl (lv_at hl 1 rfl) ?_
            refine lv_iload_n hx hb dX3_readUnit_62 rfl (lv_at hl 2 rfl) ?_
            refine lv_iconst (v := nI 1) hx hb dX3_readUnit_63 (by decide) ?_
            refine n_iadd hx hb dX3_readUnit_64 ?_
            rcases hq4 : pT (mT (τ.2.1 0) (σ.1 1) 0) k 0 0 (vp + 1) (vd + 1) 1 with ⟨T4, p4, w4⟩
            obtain ⟨m41, m42, m43, m44⟩ := pT_k hq4 (show vp + 1 ≤ σ.1 1 by omega) (by decide) (by decide)
            replace m42 : p4 ≤ σ.1 1 := m42
            rcases htk : tkB (mT (τ.2.1 0) (σ.1 1) 0) p4 w4 41 with _ | _
            ·
              refine ctV (rest := []) S hK (c_X3_readToBracket_f l G b σ τ (vp + 1) lo (vd + 1) T4 p4 w4 k (by first | assumption | omega | decide) (by first | assumption | omega | decide) (by first | assumption | omega | decide) (by first | assumption | omega | decide) (by first | assumption | omega | decide) (by first | assumption | omega | decide) (by first | assumption | omega | decide) hq4 htk (fun q hq => hCO q hq) m44 m42) cw_X3_45 rfl ⟨by simp only [rL]; omega, by simp only [rL]; omega⟩ ⟨Nat.le_of_ble_eq_true rfl, Nat.le_of_ble_eq_true rfl⟩ (bk.recv hK hF rfl rfl) hl.1 rfl (Nat.le_of_ble_eq_true rfl) dX3_readUnit_65 ⟨hF, hTP, (gLH_S hLH hS (fun q h1 h2 => by omega))⟩ hS (fun _ h => by first | exact h | omega) (fun H locs hPost hz hk hS => ?_)
              obtain ⟨hF, hTP⟩ := hPost
              obtain ⟨e1, e2, e3⟩ := q3 hres (tU_c hsg c_19x hq4 htk)
              subst e1
              subst e2
              subst e3
              replace hF := bk_eq hF (show ftL G b (fq σ p4 (p4 + 1)) = ftL G b (fq σ p4 (fe p4 0)) from rfl)
              exact hE _ _ _ _ _ _ (kr_l dX3_readUnit_68) hS (by decide) (by decide) ⟨hF, hTP⟩
            ·
              refine ctV (rest := []) S hK (c_X3_readToBracket_t l G b σ τ (vp + 1) lo (vd + 1) T4 p4 w4 k (by first | assumption | omega | decide) (by first | assumption | omega | decide) (by first | assumption | omega | decide) (by first | assumption | omega | decide) (by first | assumption | omega | decide) (by first | assumption | omega | decide) (by first | assumption | omega | decide) hq4 htk (fun q hq => hCO q hq) m44 m42) cw_X3_45 rfl ⟨by simp only [rL]; omega, by simp only [rL]; omega⟩ ⟨Nat.le_of_ble_eq_true rfl, Nat.le_of_ble_eq_true rfl⟩ (bk.recv hK hF rfl rfl) hl.1 rfl (Nat.le_of_ble_eq_true rfl) dX3_readUnit_65 ⟨hF, hTP, (gLH_S hLH hS (fun q h1 h2 => by omega))⟩ hS (fun _ h => by first | exact h | omega) (fun H locs hPost hz hk hS => ?_)
              obtain ⟨hF, hTP⟩ := hPost
              obtain ⟨e1, e2, e3⟩ := q3 hres (tU_b hsg c_19x hq4 htk)
              subst e1
              subst e2
              subst e3
              replace hF := bk_eq hF (show ftL G b (fq σ (p4 + 1) 0) = ftL G b (fq σ (p4 + 1) (fe (p4 + 1) w4)) from by rw [fe_1 (tkB_lt htk).2])
              exact hE _ _ _ _ _ _ (kr_l dX3_readUnit_68) hS (by decide) (by decide) ⟨hF, hTP⟩
          ·
            exact absurd c_40 (by decide)
        ·
          refine lv_aload_n hx hb dX3_readUnit_22 rfl (lv_at hl 1 rfl) ?_
          refine ctV (rest := []) S hK (c_X3_fail_0 l G b σ vp (by omega)) cw_X3_37 rfl ⟨by simp only [rL]; omega, by simp only [rL]; omega⟩ ⟨Nat.le_of_ble_eq_true rfl, Nat.le_of_ble_eq_true rfl⟩ (bk.recv hK hF rfl rfl) hl.1 rfl (Nat.le_of_ble_eq_true rfl) dX3_readUnit_23 hF hS (fun _ h => by first | exact h | omega) (fun H locs hPost hz hk hS => ?_)
          have hF := hPost
          replace hTP := hTP.over hk (fun q h1 h2 => by have h3 : q < σ.1 0 + 1 := h2; intro hA1; omega)
          obtain ⟨e1, e2, e3⟩ := q3 hres (tU_5 hsg (by omega) (by omega))
          subst e1
          subst e2
          subst e3
          replace hF := bk_eq hF (show ftL G b (fq σ vp (vp + 1)) = ftL G b (fq σ vp (fe vp 0)) from rfl)
          exact hE _ _ _ _ _ _ (kr_l dX3_readUnit_26) hS (by decide) (by decide) ⟨hF, hTP⟩

set_option maxHeartbeats 1000000 in
set_option maxRecDepth 100000 in
theorem s_X3_readAnd (l : Launch) (G : Gt) (b : Nat) (σ : Sx) (τ : Sx) (vp : Nat) (lo : Nat) (vd : Nat) (vT : Nat) (p2 : Nat) (w2 : Nat) (n : Nat) (hn40 : σ.1 1 ≤ 40) (h256 : ∀ i, i < σ.1 1 → τ.2.1 0 i < 256) (hap : σ.1 0 + 1 ≤ b) (hlo : lo ≤ b) (hp1 : vp ≤ σ.1 1) (hd1 : vd ≤ 5) (hfu : 4 * (σ.1 1 - vp) + 2 ≤ n) (hres : pT (mT (τ.2.1 0) (σ.1 1) 0) n 1 0 vp vd 1 = (vT, p2, w2)) (hCU : ∀ q, q < n → CU l G b σ τ lo q) : Ct l G yX3_readAnd cX3_readAnd 5 ((some .long)) (4 * (5 - vd) + 3) 0 0 [.ref b, .int (nI vd)] (fun H => bk G b (ftL G b (fq σ vp 0)) H ∧ bk G (σ.1 0) (tpL G (σ.1 0) τ) H ∧ gLH G lo H) (some (.long (lN vT))) (fun H => bk G b (ftL G b (fq σ p2 (fe p2 w2))) H ∧ bk G (σ.1 0) (tpL G (σ.1 0) τ) H) (fun q => b ≤ q ∧ q < b + 1) := by
  refine ct_entry [(0, .ref b), (1, .int (nI vd))] (by decide) (Nat.le_of_ble_eq_true rfl) rfl ?_
  intro zp ze zs zm za zb zt zc Q S hK hPre hin hE ls hl
  have hx := S.1
  have hb := S.2.1
  obtain ⟨hF, hTP, hLH⟩ := hPre
  have hS : va_S (fun q => b ≤ q ∧ q < b + 1) zs.heap zs.heap [] := va_S.rf
  obtain ⟨k, rfl⟩ : ∃ k, n = k + 1 := ⟨n - 1, by omega⟩
  refine lv_aload_n hx hb dX3_readAnd_0 rfl (lv_at hl 0 rfl) ?_
  refine lv_iload_n hx hb dX3_readAnd_1 rfl (lv_at hl 1 rfl) ?_
  rcases hq3 : pT (mT (τ.2.1 0) (σ.1 1) 0) k 2 0 vp vd 1 with ⟨T3, p3, w3⟩
  obtain ⟨m31, m32, m33, m34⟩ := pT_k hq3 (show vp ≤ σ.1 1 by omega) (by decide) (by decide)
  replace m32 : p3 ≤ σ.1 1 := m32
  refine ctV (rest := []) S hK (hCU k (by omega) vp vd T3 p3 w3 (by first | assumption | omega | decide) (by first | assumption | omega | decide) (by first | assumption | omega | decide) (by first | assumption | omega | decide) (by first | assumption | omega | decide) (by first | assumption | omega | decide) (by first | assumption | omega | decide) hq3) cw_X3_34 rfl ⟨by simp only [rL]; omega, by simp only [rL]; omega⟩ ⟨Nat.le_of_ble_eq_true rfl, Nat.le_of_ble_eq_true rfl⟩ (bk.recv hK hF rfl rfl) hl.1 rfl (Nat.le_of_ble_eq_true rfl) dX3_readAnd_2 ⟨hF, hTP, (gLH_S hLH hS (fun q h1 h2 => by omega))⟩ hS (fun _ h => by first | exact h | omega) (fun H locs hPost hz hk hS => ?_)
  obtain ⟨hF, hTP⟩ := hPost
  refine lv_lstore_n (lv' := [(2, .long (lN T3)), (0, .ref b), (1, .int (nI vd))]) hx hb dX3_readAnd_5 rfl hl (by decide) rfl (fun ls hl => ?_)
  refine lv_iconst (v := nI 0) hx hb dX3_readAnd_6 (by decide) ?_
  refine lv_istore (lv' := [(4, .int (nI 0)), (2, .long (lN T3)), (0, .ref b), (1, .int (nI vd))]) hx hb dX3_readAnd_7 hl (by decide) rfl (fun ls hl => ?_)
  have L9 : ∀ (fu : Nat), ∀ (vv : Nat) (vm : Nat) (vx : Nat) (vz : Nat) (vi : Nat), (vx ≤ σ.1 1) → (vz < 2) → (vi ≤ vx) → (4 * (σ.1 1 - vx) + 1 ≤ vm) → (vm ≤ k) → (pT (mT (τ.2.1 0) (σ.1 1) 0) vm 4 vv vx vd vz = (vT, p2, w2)) → vm < fu → ∀ (H : Heap) (locs : List Loc), bk G b (ftL G b (fq σ vx (fe vx vz))) H → bk G (σ.1 0) (tpL G (σ.1 0) τ) H → va_S (fun q => b ≤ q ∧ q < b + 1) zs.heap H locs → ∀ ls : Array Slot, lv_has ls 5 [(0, .ref b), (1, .int (nI vd)), (2, .long (lN vv)), (4, .int (nI vi))] → W zp l ze (rL (4 * (5 - vd) + 3) 0 0) zs zm za zb zt zc H locs 0 0 Q (F0 zm 9 ls []) := by
    intro fu
    induction fu with
    | zero =>
      intro vv vm vx vz vi hA1 hA3 hA4 hA5 hA6 hA7 hmu H locs hF hTP hS ls hl
      exact absurd hmu (Nat.not_lt_zero _)
    | succ fu ih9 =>
      intro vv vm vx vz vi hA1 hA3 hA4 hA5 hA6 hA7 hmu H locs hF hTP hS ls hl
      obtain ⟨vm, rfl⟩ : ∃ q, vm = q + 1 := ⟨vm - 1, by omega⟩
      refine lv_iload hx hb dX3_readAnd_9 (lv_at hl 3 rfl) ?_
      refine lv_aload_n hx hb dX3_readAnd_11 rfl (lv_at hl 0 rfl) ?_
      refine kg (C := RX3) (T := TX3) (N := 4) (ci := 2) (k := 1) (v := .int (nI (σ.1 1))) S hK rfl inX3 (by decide) q_347 dX3_readAnd_12 hF rfl rfl ?_
      refine n_icmp_ge (tgt := 59) hx hb dX3_readAnd_15 (by decide) (by first | omega | assumption) (by first | omega | assumption) (fun c_15 => ?_) (fun c_15 => ?_)
      ·
        have htk : tkB (mT (τ.2.1 0) (σ.1 1) 0) vx vz 38 = false := by
          have q : sgM (mT (τ.2.1 0) (σ.1 1) 0) vx = none := sgT_n (by omega)
          exact tk_n q
        refine lv_lload_n hx hb dX3_readAnd_59 rfl (lv_at hl 2 rfl) ?_
        obtain ⟨e1, e2, e3⟩ := q3 hA7 (t4_f htk)
        subst e1
        subst e2
        subst e3
        exact hE _ _ _ _ _ _ (kr_l dX3_readAnd_60) hS (by decide) (by decide) ⟨hF, hTP⟩
      ·
        refine lv_aload_n hx hb dX3_readAnd_18 rfl (lv_at hl 0 rfl) ?_
        refine kg (C := RX3) (T := TX3) (N := 4) (ci := 2) (k := 3) (v := .int (flt (fe vx vz))) S hK rfl inX3 (by decide) q_349 dX3_readAnd_19 hF rfl rfl ?_
        refine lv_iconst (v := (-1)) hx hb dX3_readAnd_22 (by decide) ?_
        refine lv_icmp_ne (tgt := 59) hx hb dX3_readAnd_23 (by decide) (fun c_23 => ?_) (fun c_23 => ?_)
        ·
          have hz0 : vz = 0 := flt_0 c_23 (by omega)
          have htk : tkB (mT (τ.2.1 0) (σ.1 1) 0) vx vz 38 = false := by rw [hz0]; rfl
          refine lv_lload_n hx hb dX3_readAnd_59 rfl (lv_at hl 2 rfl) ?_
          obtain ⟨e1, e2, e3⟩ := q3 hA7 (t4_f htk)
          subst e1
          subst e2
          subst e3
          exact hE _ _ _ _ _ _ (kr_l dX3_readAnd_60) hS (by decide) (by decide) ⟨hF, hTP⟩
        ·
          have hz1 : ¬ vz = 0 := flt_1 c_23 (by omega)
          have hz2 : vz = 1 := by omega
          subst hz2
          replace hF : bk G b (ftL G b (fq σ vx 0)) H := hF
          refine lv_aload_n hx hb dX3_readAnd_26 rfl (lv_at hl 0 rfl) ?_
          rcases hsg : sgM (mT (τ.2.1 0) (σ.1 1) 0) vx with _ | vc
          ·
            have htk : tkB (mT (τ.2.1 0) (σ.1 1) 0) vx 1 38 = false := tk_n hsg
            refine crV (rest := []) S hK (c_X3_next_e l G b σ τ vx (by first | assumption | omega | decide) (by first | assumption | omega | decide) (by first | assumption | omega | decide) (by first | assumption | omega | decide) (by omega)) cw_X3_30 rfl ⟨by simp only [rL]; omega, by simp only [rL]; omega⟩ ⟨Nat.le_of_ble_eq_true rfl, Nat.le_of_ble_eq_true rfl⟩ (bk.recv hK hF rfl rfl) hl.1 rfl (Nat.le_of_ble_eq_true rfl) dX3_readAnd_27 ⟨hF, hTP⟩ ?_
            refine lv_bipush (v := nI 38) hx hb dX3_readAnd_30 (by decide) ?_
            refine lv_icmp_ne (tgt := 59) hx hb dX3_readAnd_32 (by decide) (fun c_32 => ?_) (fun c_32 => ?_)
            ·
              have htk : tkB (mT (τ.2.1 0) (σ.1 1) 0) vx 1 38 = false := by first | assumption | exact tk_s hsg c_32
              refine lv_lload_n hx hb dX3_readAnd_59 rfl (lv_at hl 2 rfl) ?_
              obtain ⟨e1, e2, e3⟩ := q3 hA7 (t4_f htk)
              subst e1
              subst e2
              subst e3
              replace hF := bk_eq hF (show ftL G b (fq σ vx 0) = ftL G b (fq σ vx (fe vx 1)) from rfl)
              exact hE _ _ _ _ _ _ (kr_l dX3_readAnd_60) hS (by decide) (by decide) ⟨hF, hTP⟩
            ·
              exact absurd c_32 (by decide)
          ·
            have hvc : vc < 256 := by
              have q := (sg_lt hsg).2
              rw [← q]
              have z := h256 vx (sg_lt hsg).1
              show txM (mT (τ.2.1 0) (σ.1 1) 0) (0 + vx) < 256
              rw [Nat.zero_add]
              exact z
            have hvx : vx < σ.1 1 := (sg_lt hsg).1
            refine crV (rest := []) S hK (c_X3_next_b l G b σ τ vx vc (by first | assumption | omega | decide) (by first | assumption | omega | decide) (by first | assumption | omega | decide) (by first | assumption | omega | decide)) cw_X3_30 rfl ⟨by simp only [rL]; omega, by simp only [rL]; omega⟩ ⟨Nat.le_of_ble_eq_true rfl, Nat.le_of_ble_eq_true rfl⟩ (bk.recv hK hF rfl rfl) hl.1 rfl (Nat.le_of_ble_eq_true rfl) dX3_readAnd_27 ⟨hF, hTP⟩ ?_
            refine lv_bipush (v := nI 38) hx hb dX3_readAnd_30 (by decide) ?_
            refine n_icmp_ne (tgt := 59) hx hb dX3_readAnd_32 (by decide) (by first | omega | assumption) (by decide) (fun c_32 => ?_) (fun c_32 => ?_)
            ·
              have htk : tkB (mT (τ.2.1 0) (σ.1 1) 0) vx 1 38 = false := by first | assumption | exact tk_s hsg c_32
              refine lv_lload_n hx hb dX3_readAnd_59 rfl (lv_at hl 2 rfl) ?_
              obtain ⟨e1, e2, e3⟩ := q3 hA7 (t4_f htk)
              subst e1
              subst e2
              subst e3
              replace hF := bk_eq hF (show ftL G b (fq σ vx 0) = ftL G b (fq σ vx (fe vx 1)) from rfl)
              exact hE _ _ _ _ _ _ (kr_l dX3_readAnd_60) hS (by decide) (by decide) ⟨hF, hTP⟩
            ·
              subst c_32
              have htk : tkB (mT (τ.2.1 0) (σ.1 1) 0) vx 1 38 = true := tk_y hsg (by decide)
              refine lv_aload_n hx hb dX3_readAnd_35 rfl (lv_at hl 0 rfl) ?_
              refine lv_dup hx hb dX3_readAnd_36 rfl ?_
              refine kg (C := RX3) (T := TX3) (N := 4) (ci := 2) (k := 2) (v := .int (nI vx)) S hK rfl inX3 (by decide) q_348 dX3_readAnd_37 hF rfl rfl ?_
              refine lv_iconst (v := nI 1) hx hb dX3_readAnd_40 (by decide) ?_
              refine n_iadd hx hb dX3_readAnd_41 ?_
              refine kp (C := RX3) (T := TX3) (N := 4) (ci := 2) (k := 2) (ty := .int) tyX3 tyX3_ok nmX3 S hK rfl inX3 (by decide) q_348 rfl dX3_readAnd_42 rfl rfl rfl hF rfl (Nat.le_of_ble_eq_true rfl) (L1 := ftL G b (fq σ (vx + 1) 0)) rfl hS (by first | exact ⟨by omega, by omega⟩ | omega) (fun H locs hF hS hz2 hk => ?_)
              replace hTP := hTP.kept (fun q h1 h2 => hk q (by have h3 : q < σ.1 0 + 1 := h2; omega))
              refine lv_lload_n hx hb dX3_readAnd_45 rfl (lv_at hl 2 rfl) ?_
              refine lv_aload_n hx hb dX3_readAnd_46 rfl (lv_at hl 0 rfl) ?_
              refine lv_iload_n hx hb dX3_readAnd_47 rfl (lv_at hl 1 rfl) ?_
              rcases hq4 : pT (mT (τ.2.1 0) (σ.1 1) 0) vm 2 0 (vx + 1) vd 1 with ⟨T4, p4, w4⟩
              obtain ⟨m41, m42, m43, m44⟩ := pT_k hq4 (show vx + 1 ≤ σ.1 1 by omega) (by decide) (by decide)
              replace m42 : p4 ≤ σ.1 1 := m42
              refine ctV (rest := [.long (lN vv)]) S hK (hCU vm (by omega) (vx + 1) vd T4 p4 w4 (by first | assumption | omega | decide) (by first | assumption | omega | decide) (by first | assumption | omega | decide) (by first | assumption | omega | decide) (by first | assumption | omega | decide) (by first | assumption | omega | decide) (by first | assumption | omega | decide) hq4) cw_X3_34 rfl ⟨by simp only [rL]; omega, by simp only [rL]; omega⟩ ⟨Nat.le_of_ble_eq_true rfl, Nat.le_of_ble_eq_true rfl⟩ (bk.recv hK hF rfl rfl) hl.1 rfl (Nat.le_of_ble_eq_true rfl) dX3_readAnd_48 ⟨hF, hTP, (gLH_S hLH hS (fun q h1 h2 => by omega))⟩ hS (fun _ h => by first | exact h | omega) (fun H locs hPost hz hk hS => ?_)
              obtain ⟨hF, hTP⟩ := hPost
              refine n_land hx hb dX3_readAnd_51 ?_
              refine lv_lstore_n (lv' := [(2, .long (lN (vv &&& T4))), (0, .ref b), (1, .int (nI vd)), (4, .int (nI vi))]) hx hb dX3_readAnd_52 rfl hl (by decide) rfl (fun ls hl => ?_)
              refine lv_iinc (v := (nI (vi + 1))) (lv' := [(4, .int (nI (vi + 1))), (2, .long (lN (vv &&& T4))), (0, .ref b), (1, .int (nI vd))]) hx hb dX3_readAnd_53 hl (k := 3) rfl (inc1 _) (by decide) rfl (fun ls hl => ?_)
              refine lv_goto (tgt := 9) hx hb dX3_readAnd_56 (by decide) ?_
              exact ih9 (vv &&& T4) vm p4 w4 (vi + 1) (by first | assumption | omega) (by first | assumption | omega) (by omega) (by first | assumption | omega) (by first | assumption | omega) (t4_t htk hq4 hA7) (by omega) _ _ hF hTP hS ls (lv_sub hl [2, 3, 1, 0] rfl)
  exact L9 (k + 1) T3 k p3 w3 0 (by first | assumption | omega) (by first | assumption | omega) (Nat.zero_le _) (by first | assumption | omega) (by first | assumption | omega) (tA_e hq3 hres) (Nat.lt_succ_self _) _ _ hF hTP hS ls (lv_sub hl [2, 3, 1, 0] rfl)

set_option maxHeartbeats 1000000 in
set_option maxRecDepth 100000 in
theorem s_X3_readOr (l : Launch) (G : Gt) (b : Nat) (σ : Sx) (τ : Sx) (vp : Nat) (lo : Nat) (vd : Nat) (vT : Nat) (p2 : Nat) (w2 : Nat) (n : Nat) (hn40 : σ.1 1 ≤ 40) (h256 : ∀ i, i < σ.1 1 → τ.2.1 0 i < 256) (hap : σ.1 0 + 1 ≤ b) (hlo : lo ≤ b) (hp1 : vp ≤ σ.1 1) (hd1 : vd ≤ 5) (hfu : 4 * (σ.1 1 - vp) + 3 ≤ n) (hres : pT (mT (τ.2.1 0) (σ.1 1) 0) n 0 0 vp vd 1 = (vT, p2, w2)) (hCA : ∀ q, q < n → CA l G b σ τ lo q) : Ct l G yX3_readOr cX3_readOr 5 ((some .long)) (4 * (5 - vd) + 4) 0 0 [.ref b, .int (nI vd)] (fun H => bk G b (ftL G b (fq σ vp 0)) H ∧ bk G (σ.1 0) (tpL G (σ.1 0) τ) H ∧ gLH G lo H) (some (.long (lN vT))) (fun H => bk G b (ftL G b (fq σ p2 (fe p2 w2))) H ∧ bk G (σ.1 0) (tpL G (σ.1 0) τ) H) (fun q => b ≤ q ∧ q < b + 1) := by
  refine ct_entry [(0, .ref b), (1, .int (nI vd))] (by decide) (Nat.le_of_ble_eq_true rfl) rfl ?_
  intro zp ze zs zm za zb zt zc Q S hK hPre hin hE ls hl
  have hx := S.1
  have hb := S.2.1
  obtain ⟨hF, hTP, hLH⟩ := hPre
  have hS : va_S (fun q => b ≤ q ∧ q < b + 1) zs.heap zs.heap [] := va_S.rf
  obtain ⟨k, rfl⟩ : ∃ k, n = k + 1 := ⟨n - 1, by omega⟩
  refine lv_aload_n hx hb dX3_readOr_0 rfl (lv_at hl 0 rfl) ?_
  refine lv_iload_n hx hb dX3_readOr_1 rfl (lv_at hl 1 rfl) ?_
  rcases hq3 : pT (mT (τ.2.1 0) (σ.1 1) 0) k 1 0 vp vd 1 with ⟨T3, p3, w3⟩
  obtain ⟨m31, m32, m33, m34⟩ := pT_k hq3 (show vp ≤ σ.1 1 by omega) (by decide) (by decide)
  replace m32 : p3 ≤ σ.1 1 := m32
  refine ctV (rest := []) S hK (hCA k (by omega) vp vd T3 p3 w3 (by first | assumption | omega | decide) (by first | assumption | omega | decide) (by first | assumption | omega | decide) (by first | assumption | omega | decide) (by first | assumption | omega | decide) (by first | assumption | omega | decide) (by first | assumption | omega | decide) hq3) cw_X3_27 rfl ⟨by simp only [rL]; omega, by simp only [rL]; omega⟩ ⟨Nat.le_of_ble_eq_true rfl, Nat.le_of_ble_eq_true rfl⟩ (bk.recv hK hF rfl rfl) hl.1 rfl (Nat.le_of_ble_eq_true rfl) dX3_readOr_2 ⟨hF, hTP, (gLH_S hLH hS (fun q h1 h2 => by omega))⟩ hS (fun _ h => by first | exact h | omega) (fun H locs hPost hz hk hS => ?_)
  obtain ⟨hF, hTP⟩ := hPost
  refine lv_lstore_n (lv' := [(2, .long (lN T3)), (0, .ref b), (1, .int (nI vd))]) hx hb dX3_readOr_5 rfl hl (by decide) rfl (fun ls hl => ?_)
  refine lv_iconst (v := nI 0) hx hb dX3_readOr_6 (by decide) ?_
  refine lv_istore (lv' := [(4, .int (nI 0)), (2, .long (lN T3)), (0, .ref b), (1, .int (nI vd))]) hx hb dX3_readOr_7 hl (by decide) rfl (fun ls hl => ?_)
  have L9 : ∀ (fu : Nat), ∀ (vv : Nat) (vm : Nat) (vx : Nat) (vz : Nat) (vi : Nat), (vx ≤ σ.1 1) → (vz < 2) → (vi ≤ vx) → (4 * (σ.1 1 - vx) + 2 ≤ vm) → (vm ≤ k) → (pT (mT (τ.2.1 0) (σ.1 1) 0) vm 3 vv vx vd vz = (vT, p2, w2)) → vm < fu → ∀ (H : Heap) (locs : List Loc), bk G b (ftL G b (fq σ vx (fe vx vz))) H → bk G (σ.1 0) (tpL G (σ.1 0) τ) H → va_S (fun q => b ≤ q ∧ q < b + 1) zs.heap H locs → ∀ ls : Array Slot, lv_has ls 5 [(0, .ref b), (1, .int (nI vd)), (2, .long (lN vv)), (4, .int (nI vi))] → W zp l ze (rL (4 * (5 - vd) + 4) 0 0) zs zm za zb zt zc H locs 0 0 Q (F0 zm 9 ls []) := by
    intro fu
    induction fu with
    | zero =>
      intro vv vm vx vz vi hA1 hA3 hA4 hA5 hA6 hA7 hmu H locs hF hTP hS ls hl
      exact absurd hmu (Nat.not_lt_zero _)
    | succ fu ih9 =>
      intro vv vm vx vz vi hA1 hA3 hA4 hA5 hA6 hA7 hmu H locs hF hTP hS ls hl
      obtain ⟨vm, rfl⟩ : ∃ q, vm = q + 1 := ⟨vm - 1, by omega⟩
      refine lv_iload hx hb dX3_readOr_9 (lv_at hl 3 rfl) ?_
      refine lv_aload_n hx hb dX3_readOr_11 rfl (lv_at hl 0 rfl) ?_
      refine kg (C := RX3) (T := TX3) (N := 4) (ci := 2) (k := 1) (v := .int (nI (σ.1 1))) S hK rfl inX3 (by decide) q_347 dX3_readOr_12 hF rfl rfl ?_
      refine n_icmp_ge (tgt := 59) hx hb dX3_readOr_15 (by decide) (by first | omega | assumption) (by first | omega | assumption) (fun c_15 => ?_) (fun c_15 => ?_)
      ·
        have htk : tkB (mT (τ.2.1 0) (σ.1 1) 0) vx vz 124 = false := by
          have q : sgM (mT (τ.2.1 0) (σ.1 1) 0) vx = none := sgT_n (by omega)
          exact tk_n q
        refine lv_lload_n hx hb dX3_readOr_59 rfl (lv_at hl 2 rfl) ?_
        obtain ⟨e1, e2, e3⟩ := q3 hA7 (t3_f htk)
        subst e1
        subst e2
        subst e3
        exact hE _ _ _ _ _ _ (kr_l dX3_readOr_60) hS (by decide) (by decide) ⟨hF, hTP⟩
      ·
        refine lv_aload_n hx hb dX3_readOr_18 rfl (lv_at hl 0 rfl) ?_
        refine kg (C := RX3) (T := TX3) (N := 4) (ci := 2) (k := 3) (v := .int (flt (fe vx vz))) S hK rfl inX3 (by decide) q_349 dX3_readOr_19 hF rfl rfl ?_
        refine lv_iconst (v := (-1)) hx hb dX3_readOr_22 (by decide) ?_
        refine lv_icmp_ne (tgt := 59) hx hb dX3_readOr_23 (by decide) (fun c_23 => ?_) (fun c_23 => ?_)
        ·
          have hz0 : vz = 0 := flt_0 c_23 (by omega)
          have htk : tkB (mT (τ.2.1 0) (σ.1 1) 0) vx vz 124 = false := by rw [hz0]; rfl
          refine lv_lload_n hx hb dX3_readOr_59 rfl (lv_at hl 2 rfl) ?_
          obtain ⟨e1, e2, e3⟩ := q3 hA7 (t3_f htk)
          subst e1
          subst e2
          subst e3
          exact hE _ _ _ _ _ _ (kr_l dX3_readOr_60) hS (by decide) (by decide) ⟨hF, hTP⟩
        ·
          have hz1 : ¬ vz = 0 := flt_1 c_23 (by omega)
          have hz2 : vz = 1 := by omega
          subst hz2
          replace hF : bk G b (ftL G b (fq σ vx 0)) H := hF
          refine lv_aload_n hx hb dX3_readOr_26 rfl (lv_at hl 0 rfl) ?_
          rcases hsg : sgM (mT (τ.2.1 0) (σ.1 1) 0) vx with _ | vc
          ·
            have htk : tkB (mT (τ.2.1 0) (σ.1 1) 0) vx 1 124 = false := tk_n hsg
            refine crV (rest := []) S hK (c_X3_next_e l G b σ τ vx (by first | assumption | omega | decide) (by first | assumption | omega | decide) (by first | assumption | omega | decide) (by first | assumption | omega | decide) (by omega)) cw_X3_30 rfl ⟨by simp only [rL]; omega, by simp only [rL]; omega⟩ ⟨Nat.le_of_ble_eq_true rfl, Nat.le_of_ble_eq_true rfl⟩ (bk.recv hK hF rfl rfl) hl.1 rfl (Nat.le_of_ble_eq_true rfl) dX3_readOr_27 ⟨hF, hTP⟩ ?_
            refine lv_bipush (v := nI 124) hx hb dX3_readOr_30 (by decide) ?_
            refine lv_icmp_ne (tgt := 59) hx hb dX3_readOr_32 (by decide) (fun c_32 => ?_) (fun c_32 => ?_)
            ·
              have htk : tkB (mT (τ.2.1 0) (σ.1 1) 0) vx 1 124 = false := by first | assumption | exact tk_s hsg c_32
              refine lv_lload_n hx hb dX3_readOr_59 rfl (lv_at hl 2 rfl) ?_
              obtain ⟨e1, e2, e3⟩ := q3 hA7 (t3_f htk)
              subst e1
              subst e2
              subst e3
              replace hF := bk_eq hF (show ftL G b (fq σ vx 0) = ftL G b (fq σ vx (fe vx 1)) from rfl)
              exact hE _ _ _ _ _ _ (kr_l dX3_readOr_60) hS (by decide) (by decide) ⟨hF, hTP⟩
            ·
              exact absurd c_32 (by decide)
          ·
            have hvc : vc < 256 := by
              have q := (sg_lt hsg).2
              rw [← q]
              have z := h256 vx (sg_lt hsg).1
              show txM (mT (τ.2.1 0) (σ.1 1) 0) (0 + vx) < 256
              rw [Nat.zero_add]
              exact z
            have hvx : vx < σ.1 1 := (sg_lt hsg).1
            refine crV (rest := []) S hK (c_X3_next_b l G b σ τ vx vc (by first | assumption | omega | decide) (by first | assumption | omega | decide) (by first | assumption | omega | decide) (by first | assumption | omega | decide)) cw_X3_30 rfl ⟨by simp only [rL]; omega, by simp only [rL]; omega⟩ ⟨Nat.le_of_ble_eq_true rfl, Nat.le_of_ble_eq_true rfl⟩ (bk.recv hK hF rfl rfl) hl.1 rfl (Nat.le_of_ble_eq_true rfl) dX3_readOr_27 ⟨hF, hTP⟩ ?_
            refine lv_bipush (v := nI 124) hx hb dX3_readOr_30 (by decide) ?_
            refine n_icmp_ne (tgt := 59) hx hb dX3_readOr_32 (by decide) (by first | omega | assumption) (by decide) (fun c_32 => ?_) (fun c_32 => ?_)
            ·
              have htk : tkB (mT (τ.2.1 0) (σ.1 1) 0) vx 1 124 = false := by first | assumption | exact tk_s hsg c_32
              refine lv_lload_n hx hb dX3_readOr_59 rfl (lv_at hl 2 rfl) ?_
              obtain ⟨e1, e2, e3⟩ := q3 hA7 (t3_f htk)
              subst e1
              subst e2
              subst e3
              replace hF := bk_eq hF (show ftL G b (fq σ vx 0) = ftL G b (fq σ vx (fe vx 1)) from rfl)
              exact hE _ _ _ _ _ _ (kr_l dX3_readOr_60) hS (by decide) (by decide) ⟨hF, hTP⟩
            ·
              subst c_32
              have htk : tkB (mT (τ.2.1 0) (σ.1 1) 0) vx 1 124 = true := tk_y hsg (by decide)
              refine lv_aload_n hx hb dX3_readOr_35 rfl (lv_at hl 0 rfl) ?_
              refine lv_dup hx hb dX3_readOr_36 rfl ?_
              refine kg (C := RX3) (T := TX3) (N := 4) (ci := 2) (k := 2) (v := .int (nI vx)) S hK rfl inX3 (by decide) q_348 dX3_readOr_37 hF rfl rfl ?_
              refine lv_iconst (v := nI 1) hx hb dX3_readOr_40 (by decide) ?_
              refine n_iadd hx hb dX3_readOr_41 ?_
              refine kp (C := RX3) (T := TX3) (N := 4) (ci := 2) (k := 2) (ty := .int) tyX3 tyX3_ok nmX3 S hK rfl inX3 (by decide) q_348 rfl dX3_readOr_42 rfl rfl rfl hF rfl (Nat.le_of_ble_eq_true rfl) (L1 := ftL G b (fq σ (vx + 1) 0)) rfl hS (by first | exact ⟨by omega, by omega⟩ | omega) (fun H locs hF hS hz2 hk => ?_)
              replace hTP := hTP.kept (fun q h1 h2 => hk q (by have h3 : q < σ.1 0 + 1 := h2; omega))
              refine lv_lload_n hx hb dX3_readOr_45 rfl (lv_at hl 2 rfl) ?_
              refine lv_aload_n hx hb dX3_readOr_46 rfl (lv_at hl 0 rfl) ?_
              refine lv_iload_n hx hb dX3_readOr_47 rfl (lv_at hl 1 rfl) ?_
              rcases hq4 : pT (mT (τ.2.1 0) (σ.1 1) 0) vm 1 0 (vx + 1) vd 1 with ⟨T4, p4, w4⟩
              obtain ⟨m41, m42, m43, m44⟩ := pT_k hq4 (show vx + 1 ≤ σ.1 1 by omega) (by decide) (by decide)
              replace m42 : p4 ≤ σ.1 1 := m42
              refine ctV (rest := [.long (lN vv)]) S hK (hCA vm (by omega) (vx + 1) vd T4 p4 w4 (by first | assumption | omega | decide) (by first | assumption | omega | decide) (by first | assumption | omega | decide) (by first | assumption | omega | decide) (by first | assumption | omega | decide) (by first | assumption | omega | decide) (by first | assumption | omega | decide) hq4) cw_X3_27 rfl ⟨by simp only [rL]; omega, by simp only [rL]; omega⟩ ⟨Nat.le_of_ble_eq_true rfl, Nat.le_of_ble_eq_true rfl⟩ (bk.recv hK hF rfl rfl) hl.1 rfl (Nat.le_of_ble_eq_true rfl) dX3_readOr_48 ⟨hF, hTP, (gLH_S hLH hS (fun q h1 h2 => by omega))⟩ hS (fun _ h => by first | exact h | omega) (fun H locs hPost hz hk hS => ?_)
              obtain ⟨hF, hTP⟩ := hPost
              refine n_lor hx hb dX3_readOr_51 ?_
              refine lv_lstore_n (lv' := [(2, .long (lN (vv ||| T4))), (0, .ref b), (1, .int (nI vd)), (4, .int (nI vi))]) hx hb dX3_readOr_52 rfl hl (by decide) rfl (fun ls hl => ?_)
              refine lv_iinc (v := (nI (vi + 1))) (lv' := [(4, .int (nI (vi + 1))), (2, .long (lN (vv ||| T4))), (0, .ref b), (1, .int (nI vd))]) hx hb dX3_readOr_53 hl (k := 3) rfl (inc1 _) (by decide) rfl (fun ls hl => ?_)
              refine lv_goto (tgt := 9) hx hb dX3_readOr_56 (by decide) ?_
              exact ih9 (vv ||| T4) vm p4 w4 (vi + 1) (by first | assumption | omega) (by first | assumption | omega) (by omega) (by first | assumption | omega) (by first | assumption | omega) (t3_t htk hq4 hA7) (by omega) _ _ hF hTP hS ls (lv_sub hl [2, 3, 1, 0] rfl)
  exact L9 (k + 1) T3 k p3 w3 0 (by first | assumption | omega) (by first | assumption | omega) (Nat.zero_le _) (by first | assumption | omega) (by first | assumption | omega) (tO_e hq3 hres) (Nat.lt_succ_self _) _ _ hF hTP hS ls (lv_sub hl [2, 3, 1, 0] rfl)

theorem C_all (l : Launch) (G : Gt) (b : Nat) (σ τ : Sx) (lo : Nat) : ∀ n, (∀ q, q < n → CU l G b σ τ lo q) ∧ (∀ q, q < n → CA l G b σ τ lo q) ∧ ∀ q, q < n → CO l G b σ τ lo q
  | 0 => ⟨fun q h => absurd h (Nat.not_lt_zero q), fun q h => absurd h (Nat.not_lt_zero q), fun q h => absurd h (Nat.not_lt_zero q)⟩
  | n + 1 => by
    obtain ⟨h1, h2, h3⟩ := C_all l G b σ τ lo n
    refine ⟨fun q hq => ?_, fun q hq => ?_, fun q hq => ?_⟩
    · by_cases e : q = n
      · subst e
        exact fun vp vd vT p2 w2 hn40 h256 hap hlo hp1 hd1 hfu hres => s_X3_readUnit l G b σ τ vp lo vd vT p2 w2 q hn40 h256 hap hlo hp1 hd1 hfu hres h1 h3
      · exact h1 q (by omega)
    · by_cases e : q = n
      · subst e
        exact fun vp vd vT p2 w2 hn40 h256 hap hlo hp1 hd1 hfu hres => s_X3_readAnd l G b σ τ vp lo vd vT p2 w2 q hn40 h256 hap hlo hp1 hd1 hfu hres h1
      · exact h2 q (by omega)
    · by_cases e : q = n
      · subst e
        exact fun vp vd vT p2 w2 hn40 h256 hap hlo hp1 hd1 hfu hres => s_X3_readOr l G b σ τ vp lo vd vT p2 w2 q hn40 h256 hap hlo hp1 hd1 hfu hres h2
      · exact h3 q (by omega)

theorem c_X3_readOr (l : Launch) (G : Gt) (b : Nat) (σ : Sx) (τ : Sx) (vp : Nat) (lo : Nat) (vd : Nat) (vT : Nat) (p2 : Nat) (w2 : Nat) (n : Nat) (hn40 : σ.1 1 ≤ 40) (h256 : ∀ i, i < σ.1 1 → τ.2.1 0 i < 256) (hap : σ.1 0 + 1 ≤ b) (hlo : lo ≤ b) (hp1 : vp ≤ σ.1 1) (hd1 : vd ≤ 5) (hfu : 4 * (σ.1 1 - vp) + 3 ≤ n) (hres : pT (mT (τ.2.1 0) (σ.1 1) 0) n 0 0 vp vd 1 = (vT, p2, w2)) : Ct l G yX3_readOr cX3_readOr 5 ((some .long)) (4 * (5 - vd) + 4) 0 0 [.ref b, .int (nI vd)] (fun H => bk G b (ftL G b (fq σ vp 0)) H ∧ bk G (σ.1 0) (tpL G (σ.1 0) τ) H ∧ gLH G lo H) (some (.long (lN vT))) (fun H => bk G b (ftL G b (fq σ p2 (fe p2 w2))) H ∧ bk G (σ.1 0) (tpL G (σ.1 0) τ) H) (fun q => b ≤ q ∧ q < b + 1) := (C_all l G b σ τ lo (n + 1)).2.2 n (Nat.lt_succ_self n) vp vd vT p2 w2 hn40 h256 hap hlo hp1 hd1 hfu hres

set_option maxHeartbeats 1000000 in
set_option maxRecDepth 100000 in
theorem c_X3_truthOfAll (l : Launch) (G : Gt) (b : Nat) (σ : Sx) (τ : Sx) (vp : Nat) (lo : Nat) (vd : Nat) (vT : Nat) (p2 : Nat) (w2 : Nat) (hn40 : σ.1 1 ≤ 40) (h256 : ∀ i, i < σ.1 1 → τ.2.1 0 i < 256) (hap : σ.1 0 + 1 ≤ b) (hlo : lo ≤ b) (hres : pT (mT (τ.2.1 0) (σ.1 1) 0) 200 0 0 0 0 1 = (vT, p2, w2)) : Ct l G yX3_truthOfAll cX3_truthOfAll 3 ((some .long)) 26 0 0 [.ref b] (fun H => bk G b (ftL G b (fq σ 0 0)) H ∧ bk G (σ.1 0) (tpL G (σ.1 0) τ) H ∧ gLH G lo H) (some (.long (lN vT))) (fun H => bk G b (ftL G b (fq σ p2 (if w2 = 0 ∨ p2 < σ.1 1 then p2 + 1 else 0))) H ∧ bk G (σ.1 0) (tpL G (σ.1 0) τ) H) (fun q => b ≤ q ∧ q < b + 1) := by
  refine ct_entry [(0, .ref b)] (by decide) (Nat.le_of_ble_eq_true rfl) rfl ?_
  intro zp ze zs zm za zb zt zc Q S hK hPre hin hE ls hl
  have hx := S.1
  have hb := S.2.1
  obtain ⟨hF, hTP, hLH⟩ := hPre
  have hS : va_S (fun q => b ≤ q ∧ q < b + 1) zs.heap zs.heap [] := va_S.rf
  obtain ⟨m1, m2, m3, m4⟩ := pT_k hres (Nat.zero_le _) (by decide) (by decide)
  replace m2 : p2 ≤ σ.1 1 := m2
  refine lv_aload_n hx hb dX3_truthOfAll_0 rfl (lv_at hl 0 rfl) ?_
  refine lv_iconst (v := nI 0) hx hb dX3_truthOfAll_1 (by decide) ?_
  refine ctV (rest := []) S hK (c_X3_readOr l G b σ τ 0 lo 0 vT p2 w2 200 (by first | assumption | omega | decide) (by first | assumption | omega | decide) (by first | assumption | omega | decide) (by first | assumption | omega | decide) (Nat.zero_le _) (by first | assumption | omega | decide) (by first | assumption | omega | decide) hres) cw_X3_20 rfl ⟨Nat.le_of_ble_eq_true rfl, Nat.le_of_ble_eq_true rfl⟩ ⟨Nat.le_of_ble_eq_true rfl, Nat.le_of_ble_eq_true rfl⟩ (bk.recv hK hF rfl rfl) hl.1 rfl (Nat.le_of_ble_eq_true rfl) dX3_truthOfAll_2 ⟨hF, hTP, (gLH_S hLH hS (fun q h1 h2 => by omega))⟩ hS (fun _ h => by first | exact h | omega) (fun H locs hPost hz hk hS => ?_)
  obtain ⟨hF, hTP⟩ := hPost
  refine lv_lstore_n (lv' := [(1, .long (lN vT)), (0, .ref b)]) hx hb dX3_truthOfAll_5 rfl hl (by decide) rfl (fun ls hl => ?_)
  refine lv_aload_n hx hb dX3_truthOfAll_6 rfl (lv_at hl 1 rfl) ?_
  refine kg (C := RX3) (T := TX3) (N := 4) (ci := 2) (k := 3) (v := .int (flt (fe p2 w2))) S hK rfl inX3 (by decide) q_349 dX3_truthOfAll_7 hF rfl rfl ?_
  refine lv_iconst (v := (-1)) hx hb dX3_truthOfAll_10 (by decide) ?_
  refine lv_icmp_ne (tgt := 33) hx hb dX3_truthOfAll_11 (by decide) (fun c_11 => ?_) (fun c_11 => ?_)
  ·
    have hw0 : w2 = 0 := flt_0 c_11 (by omega)
    refine lv_lload_n hx hb dX3_truthOfAll_33 rfl (lv_at hl 0 rfl) ?_
    replace hF := bk_eq hF (show ftL G b (fq σ p2 (fe p2 w2)) = ftL G b (fq σ p2 (if w2 = 0 ∨ p2 < σ.1 1 then p2 + 1 else 0)) from by rw [if_pos (Or.inl hw0), fe_0 hw0])
    exact hE _ _ _ _ _ _ (kr_l dX3_truthOfAll_34) hS (by decide) (by decide) ⟨hF, hTP⟩
  ·
    have hw1 : ¬ w2 = 0 := flt_1 c_11 (by omega)
    refine lv_aload_n hx hb dX3_truthOfAll_14 rfl (lv_at hl 1 rfl) ?_
    refine kg (C := RX3) (T := TX3) (N := 4) (ci := 2) (k := 2) (v := .int (nI p2)) S hK rfl inX3 (by decide) q_348 dX3_truthOfAll_15 hF rfl rfl ?_
    refine lv_aload_n hx hb dX3_truthOfAll_18 rfl (lv_at hl 1 rfl) ?_
    refine kg (C := RX3) (T := TX3) (N := 4) (ci := 2) (k := 1) (v := .int (nI (σ.1 1))) S hK rfl inX3 (by decide) q_347 dX3_truthOfAll_19 hF rfl rfl ?_
    refine n_icmp_ge (tgt := 33) hx hb dX3_truthOfAll_22 (by decide) (by omega) (by omega) (fun c_22 => ?_) (fun c_22 => ?_)
    ·
      refine lv_lload_n hx hb dX3_truthOfAll_33 rfl (lv_at hl 0 rfl) ?_
      replace hF := bk_eq hF (show ftL G b (fq σ p2 (fe p2 w2)) = ftL G b (fq σ p2 (if w2 = 0 ∨ p2 < σ.1 1 then p2 + 1 else 0)) from by rw [if_neg (by omega), fe_1 hw1])
      exact hE _ _ _ _ _ _ (kr_l dX3_truthOfAll_34) hS (by decide) (by decide) ⟨hF, hTP⟩
    ·
      refine lv_aload_n hx hb dX3_truthOfAll_25 rfl (lv_at hl 1 rfl) ?_
      refine lv_aload_n hx hb dX3_truthOfAll_26 rfl (lv_at hl 1 rfl) ?_
      refine kg (C := RX3) (T := TX3) (N := 4) (ci := 2) (k := 2) (v := .int (nI p2)) S hK rfl inX3 (by decide) q_348 dX3_truthOfAll_27 hF rfl rfl ?_
      refine kp (C := RX3) (T := TX3) (N := 4) (ci := 2) (k := 3) (ty := .int) tyX3 tyX3_ok nmX3 S hK rfl inX3 (by decide) q_349 rfl dX3_truthOfAll_30 rfl rfl rfl hF rfl (Nat.le_of_ble_eq_true rfl) (L1 := ftL G b (fq σ p2 (p2 + 1))) rfl hS (by first | exact ⟨by omega, by omega⟩ | omega) (fun H locs hF hS hz2 hk => ?_)
      replace hTP := hTP.kept (fun q h1 h2 => hk q (by have h3 : q < σ.1 0 + 1 := h2; omega))
      refine lv_lload_n hx hb dX3_truthOfAll_33 rfl (lv_at hl 0 rfl) ?_
      replace hF := bk_eq hF (show ftL G b (fq σ p2 (p2 + 1)) = ftL G b (fq σ p2 (if w2 = 0 ∨ p2 < σ.1 1 then p2 + 1 else 0)) from by rw [if_pos (Or.inr (by omega))])
      exact hE _ _ _ _ _ _ (kr_l dX3_truthOfAll_34) hS (by decide) (by decide) ⟨hF, hTP⟩
