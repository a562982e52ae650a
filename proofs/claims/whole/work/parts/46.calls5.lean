
/-! walks: the class RENAMES; its row -/
theorem prB_x {x : Int32} {f : Nat} (h : prB x f = true) : ∃ j : Nat, j < 2 ^ 31 ∧ x = nI j ∧ sdg j f = 1 <<< f - 1 := by
  by_cases hx : x < 0
  · rw [prB_neg hx] at h
    cases h
  · obtain ⟨j, hj, rfl⟩ := nI_of hx
    rw [prB_n hj, Bool.and_eq_true, decide_eq_true_eq, decide_eq_true_eq] at h
    exact ⟨j, hj, rfl, h.2⟩
theorem or_r {a b c : Bool} (h : b = c) : (a || b) = (a || c) := by rw [h]
def rsB (r : Nat → Nat) : Nat → Nat
  | 0 => 0
  | k + 1 => rsB r k ||| 1 <<< (5 * (r k % 10) + r k / 10)
theorem rsB_tb (r : Nat → Nat) (j : Nat) : ∀ n, (rsB r n).testBit j = true ↔ ∃ k, k < n ∧ 5 * (r k % 10) + r k / 10 = j
  | 0 => by
    show (0 : Nat).testBit j = true ↔ _
    rw [Nat.zero_testBit]
    constructor
    · intro h; cases h
    · rintro ⟨i, hi, -⟩; omega
  | f + 1 => by
    show (rsB r f ||| 1 <<< (5 * (r f % 10) + r f / 10)).testBit j = true ↔ _
    rw [Nat.testBit_or, Nat.one_shiftLeft, Nat.testBit_two_pow, Bool.or_eq_true, rsB_tb r j f, decide_eq_true_eq]
    constructor
    · rintro (⟨i, hi, e⟩ | e)
      · exact ⟨i, by omega, e⟩
      · exact ⟨f, by omega, e⟩
    · rintro ⟨i, hi, e⟩
      by_cases z : i = f
      · subst z; exact Or.inr e
      · exact Or.inl ⟨i, by omega, e⟩
theorem rsB_n {r : Nat → Nat} {j n : Nat} (h : ∀ k, k < n → ¬ 5 * (r k % 10) + r k / 10 = j) : (rsB r n).testBit j = false := by
  cases hz : (rsB r n).testBit j
  · rfl
  · obtain ⟨k, hk, e⟩ := (rsB_tb r j n).mp hz
    exact absurd e (h k hk)

set_option maxHeartbeats 1000000 in
set_option maxRecDepth 100000 in
theorem c_X6_isPermutation (l : Launch) (G : Gt) (d : Int32) (f : Nat) (hf5 : f ≤ 5) : Cr l G yX6_isPermutation cX6_isPermutation 5 ((some .boolean)) 0 [.int d, .int (nI f)] (fun H => True) (some (.int (b2i (prB d f)))) := by
  refine cr_entry [(0, .int d), (1, .int (nI f))] (by decide) (Nat.le_of_ble_eq_true rfl) rfl ?_
  intro zp ze zs zm za zb zt zc Q S hK hPre hE ls hl
  have hx := S.1
  have hb := S.2.1
  refine lv_iload_n hx hb dX6_isPermutation_0 rfl (lv_at hl 0 rfl) ?_
  refine lv_if_ge (tgt := 6) hx hb dX6_isPermutation_1 (by decide) (fun c_1 => ?_) (fun c_1 => ?_)
  ·
    obtain ⟨j, hj, rfl⟩ := nI_of (Int32.not_lt.mpr c_1)
    refine lv_iload_n hx hb dX6_isPermutation_6 rfl (lv_at hl 0 rfl) ?_
    refine lv_istore_n (lv' := [(2, .int (nI j)), (0, .int (nI j)), (1, .int (nI f))]) hx hb dX6_isPermutation_7 rfl hl (by decide) rfl (fun ls hl => ?_)
    refine lv_iconst (v := nI 0) hx hb dX6_isPermutation_8 (by decide) ?_
    refine lv_istore_n (lv' := [(3, .int (nI 0)), (2, .int (nI j)), (0, .int (nI j)), (1, .int (nI f))]) hx hb dX6_isPermutation_9 rfl hl (by decide) rfl (fun ls hl => ?_)
    refine lv_iconst (v := nI 0) hx hb dX6_isPermutation_10 (by decide) ?_
    refine lv_istore (lv' := [(4, .int (nI 0)), (3, .int (nI 0)), (2, .int (nI j)), (0, .int (nI j)), (1, .int (nI f))]) hx hb dX6_isPermutation_11 hl (by decide) rfl (fun ls hl => ?_)
    have L13 : ∀ (fu : Nat), ∀ (vi : Nat), (vi ≤ f) → f - vi < fu → ∀ ls : Array Slot, lv_has ls 5 [(1, .int (nI f)), (2, .int (nI (j / 10 ^ vi))), (3, .int (nI (sdg j vi))), (4, .int (nI vi))] → W zp l ze (rL 0 0 0) zs zm za zb zt zc zs.heap [] 0 0 Q (F0 zm 13 ls []) := by
      intro fu
      induction fu with
      | zero =>
        intro vi hvi hmu ls hl
        exact absurd hmu (Nat.not_lt_zero _)
      | succ fu ih13 =>
        intro vi hvi hmu ls hl
        refine lv_iload hx hb dX6_isPermutation_13 (lv_at hl 3 rfl) ?_
        refine lv_iload_n hx hb dX6_isPermutation_15 rfl (lv_at hl 0 rfl) ?_
        refine n_icmp_ge (tgt := 39) hx hb dX6_isPermutation_16 (by decide) (by first | omega | exact Nat.lt_of_le_of_lt (Nat.div_le_self _ _) hj | exact Nat.lt_trans (sdg_lt _ _) (by decide)) (by first | omega | exact Nat.lt_of_le_of_lt (Nat.div_le_self _ _) hj | exact Nat.lt_trans (sdg_lt _ _) (by decide)) (fun c_16 => ?_) (fun c_16 => ?_)
        ·
          have hvf : vi = f := by omega
          have hsh := shl_le hf5
          have hone : 1 ≤ 1 <<< f := by rw [Nat.one_shiftLeft]; exact Nat.one_le_two_pow
          subst hvf
          refine lv_iload_n hx hb dX6_isPermutation_39 rfl (lv_at hl 1 rfl) ?_
          refine n_if_ne (tgt := 56) hx hb dX6_isPermutation_40 (by decide) (by first | omega | exact Nat.lt_of_le_of_lt (Nat.div_le_self _ _) hj | exact Nat.lt_trans (sdg_lt _ _) (by decide)) (fun c_40 => ?_) (fun c_40 => ?_)
          ·
            have hr : prB (nI j) vi = false := by rw [prB_n hj, decide_eq_false c_40]; rfl
            refine lv_iconst (v := nI 0) hx hb dX6_isPermutation_56 (by decide) ?_
            refine w_top (v' := .int (b2i (prB (nI j) vi))) (bz_f (show (prB (nI j) vi) = false from hr)) ?_
            exact hE _ _ (kr_z dX6_isPermutation_57)
          ·
            refine lv_iload_n hx hb dX6_isPermutation_43 rfl (lv_at hl 2 rfl) ?_
            refine lv_iconst (v := nI 1) hx hb dX6_isPermutation_44 (by decide) ?_
            refine lv_iload_n hx hb dX6_isPermutation_45 rfl (lv_at hl 0 rfl) ?_
            refine n_ishl hx hb dX6_isPermutation_46 (by first | omega | exact Nat.lt_of_le_of_lt (Nat.div_le_self _ _) hj | exact Nat.lt_trans (sdg_lt _ _) (by decide)) ?_
            refine lv_iconst (v := nI 1) hx hb dX6_isPermutation_47 (by decide) ?_
            refine n_isub hx hb dX6_isPermutation_48 hone ?_
            refine n_icmp_ne (tgt := 56) hx hb dX6_isPermutation_49 (by decide) (by first | omega | exact Nat.lt_of_le_of_lt (Nat.div_le_self _ _) hj | exact Nat.lt_trans (sdg_lt _ _) (by decide)) (by first | omega | exact Nat.lt_of_le_of_lt (Nat.div_le_self _ _) hj | exact Nat.lt_trans (sdg_lt _ _) (by decide)) (fun c_49 => ?_) (fun c_49 => ?_)
            ·
              have hr : prB (nI j) vi = false := by rw [prB_n hj, decide_eq_false (p := sdg j vi = 1 <<< vi - 1) c_49, Bool.and_false]
              refine lv_iconst (v := nI 0) hx hb dX6_isPermutation_56 (by decide) ?_
              refine w_top (v' := .int (b2i (prB (nI j) vi))) (bz_f (show (prB (nI j) vi) = false from hr)) ?_
              exact hE _ _ (kr_z dX6_isPermutation_57)
            ·
              have hr : prB (nI j) vi = true := by rw [prB_n hj, decide_eq_true c_40, decide_eq_true (p := sdg j vi = 1 <<< vi - 1) (by omega)]; rfl
              refine lv_iconst (v := nI 1) hx hb dX6_isPermutation_52 (by decide) ?_
              refine lv_goto (tgt := 57) hx hb dX6_isPermutation_53 (by decide) ?_
              refine w_top (v' := .int (b2i (prB (nI j) vi))) (bz_t (show (prB (nI j) vi) = true from hr)) ?_
              exact hE _ _ (kr_z dX6_isPermutation_57)
        ·
          refine lv_iload_n hx hb dX6_isPermutation_19 rfl (lv_at hl 2 rfl) ?_
          refine lv_iconst (v := nI 1) hx hb dX6_isPermutation_20 (by decide) ?_
          refine lv_iload_n hx hb dX6_isPermutation_21 rfl (lv_at hl 1 rfl) ?_
          refine lv_bipush (v := nI 10) hx hb dX6_isPermutation_22 (by decide) ?_
          refine n_irem hx hb dX6_isPermutation_24 (by first | omega | exact Nat.lt_of_le_of_lt (Nat.div_le_self _ _) hj | exact Nat.lt_trans (sdg_lt _ _) (by decide)) (by decide) (by decide) ?_
          refine n_ishl hx hb dX6_isPermutation_25 (Nat.lt_trans (Nat.mod_lt _ (by decide)) (by decide)) ?_
          refine n_ior hx hb dX6_isPermutation_26 ?_
          refine lv_istore_n (lv' := [(3, .int (nI ((sdg j vi) ||| (1 <<< ((j / 10 ^ vi) % 10))))), (1, .int (nI f)), (2, .int (nI (j / 10 ^ vi))), (4, .int (nI vi))]) hx hb dX6_isPermutation_27 rfl hl (by decide) rfl (fun ls hl => ?_)
          refine lv_iload_n hx hb dX6_isPermutation_28 rfl (lv_at hl 2 rfl) ?_
          refine lv_bipush (v := nI 10) hx hb dX6_isPermutation_29 (by decide) ?_
          refine n_idiv hx hb dX6_isPermutation_31 (by first | omega | exact Nat.lt_of_le_of_lt (Nat.div_le_self _ _) hj | exact Nat.lt_trans (sdg_lt _ _) (by decide)) (by decide) (by decide) ?_
          refine lv_istore_n (lv' := [(2, .int (nI ((j / 10 ^ vi) / 10))), (3, .int (nI ((sdg j vi) ||| (1 <<< ((j / 10 ^ vi) % 10))))), (1, .int (nI f)), (4, .int (nI vi))]) hx hb dX6_isPermutation_32 rfl hl (by decide) rfl (fun ls hl => ?_)
          refine lv_iinc (v := (nI (vi + 1))) (lv' := [(4, .int (nI (vi + 1))), (2, .int (nI ((j / 10 ^ vi) / 10))), (3, .int (nI ((sdg j vi) ||| (1 <<< ((j / 10 ^ vi) % 10))))), (1, .int (nI f))]) hx hb dX6_isPermutation_33 hl (k := 3) rfl (inc1 _) (by decide) rfl (fun ls hl => ?_)
          refine lv_goto (tgt := 13) hx hb dX6_isPermutation_36 (by decide) ?_
          replace hl := lv_eq 1 hl rfl (v2 := .int (nI (j / 10 ^ (vi + 1)))) (congrArg (fun z => Value.int (nI z)) (show ((j / 10 ^ vi) / 10) = (j / 10 ^ (vi + 1)) from by rw [div_10]))
          replace hl := lv_eq 2 hl rfl (v2 := .int (nI (sdg j (vi + 1)))) (congrArg (fun z => Value.int (nI z)) (show ((sdg j vi) ||| (1 <<< ((j / 10 ^ vi) % 10))) = (sdg j (vi + 1)) from rfl))
          exact ih13 (vi + 1) (by omega) (by omega) ls (lv_sub hl [3, 1, 2, 0] rfl)
    replace hl := lv_eq 2 hl rfl (v2 := .int (nI (j / 10 ^ 0))) (congrArg (fun z => Value.int (nI z)) (show j = (j / 10 ^ 0) from (Nat.div_one j).symm))
    replace hl := lv_eq 1 hl rfl (v2 := .int (nI (sdg j 0))) (congrArg (fun z => Value.int (nI z)) (show 0 = (sdg j 0) from rfl))
    exact L13 ((f - 0) + 1) 0 (Nat.zero_le _) (Nat.lt_succ_self _) ls (lv_sub hl [4, 2, 1, 0] rfl)
  ·
    have hr : prB d f = false := prB_neg (Int32.not_le.mp c_1)
    refine lv_iconst (v := nI 0) hx hb dX6_isPermutation_4 (by decide) ?_
    refine w_top (v' := .int (b2i (prB d f))) (bz_f (show (prB d f) = false from hr)) ?_
    exact hE _ _ (kr_z dX6_isPermutation_5)

set_option maxHeartbeats 1000000 in
set_option maxRecDepth 100000 in
theorem c_X6_rename (l : Launch) (G : Gt) (o : Nat) (om : Nat) (μ : Sx) (pa : Nat → Nat) (na : Nat → Nat) (nb : Nat) (p : Int32) (d : Int32) (hb0 : MIb μ) (hn0 : MIn μ) (hif : MIf μ) (hit : MIt μ) (hl0 : MIl μ) (hr0 : MIr μ) : Ct l G yX6_rename cX6_rename 4 ((some .int)) 15 5 71 [.ref o, .int p, .int d] (fun H => CWx G o om μ pa na H ∧ H.size = nb) (some (.int ((rename_M μ p d).1))) (fun H => CW G o om (rename_M μ p d).2 H) (fun q => (o ≤ q ∧ q < o + 11) ∨ nb ≤ q) := by
  refine ct_entry [(0, .ref o), (1, .int p), (2, .int d)] (by decide) (Nat.le_of_ble_eq_true rfl) rfl ?_
  intro zp ze zs zm za zb zt zc Q S hK hPre hin hE ls hl
  have hx := S.1
  have hb := S.2.1
  obtain ⟨hCW, hz⟩ := hPre
  have hS : va_S (fun q => (o ≤ q ∧ q < o + 11) ∨ nb ≤ q) zs.heap zs.heap [] := va_S.rf
  obtain ⟨⟨hoo, hosz, hLH⟩, σ, φ, ρ, hX, hF, hRF, hRX, hWB, hWN, hAP⟩ := id hCW
  obtain ⟨⟨hT1, hT2⟩, ⟨hP1, hP2⟩, ⟨hF1, hF2⟩, ⟨hN1, hN2⟩, ⟨hR1, hR2⟩, ⟨hL1, hL2, hL3, hL4⟩, hRR⟩ := id hRX
  obtain ⟨h16, -⟩ := id hb0
  obtain ⟨h18, -⟩ := id hn0
  obtain ⟨h17, -⟩ := id hif
  obtain ⟨h22, -⟩ := id hit
  obtain ⟨h19, -⟩ := id hl0
  obtain ⟨h20, -⟩ := id hr0
  have hz0 := hz
  refine lv_aload_n hx hb dX6_rename_0 rfl (lv_at hl 0 rfl) ?_
  refine lv_iload_n hx hb dX6_rename_1 rfl (lv_at hl 1 rfl) ?_
  cases hivp : inI p (μ.1 16)
  ·
    refine crV (rest := []) S hK (c_X6_partAt_n l G o σ p (by omega) (by rw [hP1]; exact hivp)) cw_X6_67 rfl ⟨Nat.le_of_ble_eq_true rfl, Nat.le_of_ble_eq_true rfl⟩ ⟨Nat.le_of_ble_eq_true rfl, Nat.le_of_ble_eq_true rfl⟩ (bk.recv hK hX rfl rfl) hl.1 rfl (Nat.le_of_ble_eq_true rfl) dX6_rename_2 hX ?_
    refine lv_astore_nN (lv' := [(3, .null), (0, .ref o), (1, .int p), (2, .int d)]) hx hb dX6_rename_5 rfl hl (by decide) rfl (fun ls hl => ?_)
    refine lv_aload_nN hx hb dX6_rename_6 rfl (lv_at hl 0 rfl) ?_
    refine lv_ifnonnullN hx hb dX6_rename_7 ?_
    refine lv_aload_n hx hb dX6_rename_10 rfl (lv_at hl 1 rfl) ?_
    refine lv_iconst (v := (-1)) hx hb dX6_rename_11 (by decide) ?_
    refine ctV (rest := []) S hK (c_X6_refuse l G o σ ρ (-1) 1 rfl (by decide)) cw_X6_42 rfl ⟨Nat.le_of_ble_eq_true rfl, Nat.le_of_ble_eq_true rfl⟩ ⟨Nat.le_of_ble_eq_true rfl, Nat.le_of_ble_eq_true rfl⟩ (bk.recv hK hX rfl rfl) hl.1 rfl (Nat.le_of_ble_eq_true rfl) dX6_rename_12 ⟨hX, hRF⟩ hS (fun _ h => by first | exact h | omega) (fun H locs hPost hz2 hk hS => ?_)
    obtain ⟨hX, hRF⟩ := hPost
    replace hF := hF.over hk (fun q h1 h2 => by have h3 : q < o + 6 + 4 := h2; intro hA1; omega)
    have hr : rename_M μ p d = ((-1), rfM μ 1) := by unfold rename_M; rw [hivp] <;> rfl
    refine w_top (v' := .int ((rename_M μ p d).1)) (congrArg (fun z => Value.int z) (congrArg Prod.fst hr).symm) ?_
    have hcw := CW_r (G := G) (o := o) (om := om) hr (CW_x hCW hS (fun q h => by first | exact Or.inl h | omega) hX hF hRF (RX_rf hRX) (KP_rf μ _))
    exact hE _ _ _ _ _ _ (kr_i dX6_rename_15) hS (by decide) (by decide) hcw
  ·
    obtain ⟨vp, hvvp, rfl⟩ := inI_x hivp
    have hcxvp := cx_n (j := vp) (by omega)
    obtain ⟨hpavp, β, hB, hBGvp, hBCvp⟩ := hWB vp hvvp
    have hBSvp := hb0.2 vp hvvp
    have hltvp := bk.lt (k := 3) hB (show 3 < 4 by decide)
    obtain ⟨⟨⟨ha1vp, ha2vp⟩, ⟨ha3vp, ha4vp⟩, ha5vp⟩, hbOvp, hbCvp, hbEvp, hbUvp⟩ := id hBSvp
    obtain ⟨hg0vp, hg1vp, hg2vp, hg3vp, hg4vp, hgFvp⟩ := id hBGvp
    obtain ⟨hc6vp, hc7vp, hc8vp⟩ := id hBCvp
    refine crV (rest := []) S hK (c_X6_partAt_y l G o σ vp (pa vp) (by omega) (by omega) (hP2 _ hvvp)) cw_X6_67 rfl ⟨Nat.le_of_ble_eq_true rfl, Nat.le_of_ble_eq_true rfl⟩ ⟨Nat.le_of_ble_eq_true rfl, Nat.le_of_ble_eq_true rfl⟩ (bk.recv hK hX rfl rfl) hl.1 rfl (Nat.le_of_ble_eq_true rfl) dX6_rename_2 hX ?_
    refine lv_astore_n (lv' := [(3, .ref (pa vp)), (0, .ref o), (1, .int (nI vp)), (2, .int d)]) hx hb dX6_rename_5 rfl hl (by decide) rfl (fun ls hl => ?_)
    refine lv_aload_n hx hb dX6_rename_6 rfl (lv_at hl 0 rfl) ?_
    refine lv_ifnonnull (tgt := 16) hx hb dX6_rename_7 (by decide) ?_
    refine lv_iload_n hx hb dX6_rename_16 rfl (lv_at hl 3 rfl) ?_
    refine lv_aload_n hx hb dX6_rename_17 rfl (lv_at hl 0 rfl) ?_
    refine kg (C := RX0) (T := TX0) (N := 9) (ci := 0) (k := 4) (v := .int (nI (β.1 4))) S hK rfl inX0 (by decide) q_202 dX6_rename_18 hB rfl rfl ?_
    refine w_top (v' := .int (nI (μ.2.1 3 vp))) (congrArg (fun z => Value.int (nI z)) hg4vp) ?_
    refine crS (rest := []) S hK (c_X6_isPermutation l G d (μ.2.1 3 vp) ha5vp) cw_X6_156 rfl ⟨Nat.le_of_ble_eq_true rfl, Nat.le_of_ble_eq_true rfl⟩ ⟨Nat.le_of_ble_eq_true rfl, Nat.le_of_ble_eq_true rfl⟩ hl.1 rfl (Nat.le_of_ble_eq_true rfl) dX6_rename_21 trivial ?_
    refine z_if_ne (tgt := 34) hx hb dX6_rename_24 (by decide) (fun c_24 => ?_) (fun c_24 => ?_)
    ·
      obtain ⟨j, hj, rfl, hsd⟩ := prB_x c_24
      have hPM := pr_PM hsd
      refine lv_aload_n hx hb dX6_rename_34 rfl (lv_at hl 1 rfl) ?_
      refine lv_aload_n hx hb dX6_rename_35 rfl (lv_at hl 0 rfl) ?_
      refine lv_iload_n hx hb dX6_rename_36 rfl (lv_at hl 3 rfl) ?_
      refine ctV (rest := [.ref o]) S hK (c_X0_renamed l G nb (pa vp) β (μ.2.1 1 vp) (μ.2.1 2 vp) (μ.2.1 3 vp) (clM μ vp) j hBSvp hBGvp hPM hj) cw_X6_160 rfl ⟨Nat.le_of_ble_eq_true rfl, Nat.le_of_ble_eq_true rfl⟩ ⟨Nat.le_of_ble_eq_true rfl, Nat.le_of_ble_eq_true rfl⟩ (bk.recv hK hB rfl rfl) hl.1 rfl (Nat.le_of_ble_eq_true rfl) dX6_rename_37 ⟨hB, hz⟩ hS (fun q h => by omega) (fun H locs hPost hz2 hk hS => ?_)
      obtain ⟨hB, hN⟩ := hPost
      replace hX := hX.over hk (fun q h1 h2 => by have h3 : q < o + 6 := h2; intro hA1; omega)
      replace hF := hF.over hk (fun q h1 h2 => by have h3 : q < o + 6 + 4 := h2; intro hA1; omega)
      replace hRF := hRF.over hk (fun q h1 h2 => by have h3 : q < o + 10 + 1 := h2; intro hA1; omega)
      obtain ⟨τ, hT, hPD⟩ := hN
      by_cases h24 : σ.1 3 < 24
      ·
        have hRE : ∀ i, i < 20 → rnC j (μ.2.1 3 vp) (clM μ vp) i = (rnD μ vp j) i := by
          intro i hi
          show _ = rnC j (μ.2.1 3 vp) (idC (μ.2.1 1 vp) (μ.2.1 2 vp) (clM μ vp)) i
          unfold rnC
          have e : idC (μ.2.1 1 vp) (μ.2.1 2 vp) (clM μ vp) i = clM μ vp i := by
            unfold idC
            split
            · rfl
            · rename_i z
              exact (hbOvp i hi z).symm
          rw [e]
        have hBSt := BS_c (BS_rn hBSvp hPM) hRE
        have hPDt := PD_congr hPD hRE
        refine ctV (rest := []) S hK (c_X6_keep_y l G o σ nb τ (μ.2.1 1 vp) (μ.2.1 2 vp) (μ.2.1 3 vp) (rnD μ vp j) (show σ.1 3 < 24 by omega) (by omega) hBSt hPDt) cw_X6_63 rfl ⟨Nat.le_of_ble_eq_true rfl, Nat.le_of_ble_eq_true rfl⟩ ⟨Nat.le_of_ble_eq_true rfl, Nat.le_of_ble_eq_true rfl⟩ (bk.recv hK hX rfl rfl) hl.1 rfl (Nat.le_of_ble_eq_true rfl) dX6_rename_40 ⟨hX, hT⟩ hS (fun q h => by omega) (fun H locs hPost hz hk hS => ?_)
        obtain ⟨hX, ⟨τ2, hT, hq2⟩⟩ := hPost
        replace hF := hF.over hk (fun q h1 h2 => by have h3 : q < o + 6 + 4 := h2; intro hA1; omega)
        replace hRF := hRF.over hk (fun q h1 h2 => by have h3 : q < o + 10 + 1 := h2; intro hA1; omega)
        replace hB := hB.over hk (fun q h1 h2 => by have h3 : q < pa vp + 4 := h2; intro hA1; omega)
        have hr : rename_M μ (nI vp) (nI j) = ((nI (σ.1 3)), nwP μ (μ.2.1 1 vp) (μ.2.1 2 vp) (μ.2.1 3 vp) (rnD μ vp j)) := by unfold rename_M; rw [hivp, if_pos (by rfl), hcxvp, c_24, if_pos (by rfl), if_neg (by omega), hP1, cx_n hj]
        refine w_top (v' := .int ((rename_M μ (nI vp) (nI j)).1)) (congrArg (fun z => Value.int z) (congrArg Prod.fst hr).symm) ?_
        have hcw := CW_r (G := G) (o := o) (om := om) hr (CW_p hCW hn0 hS (fun q h => by omega) hX hF hRF (RX_p hRX (fun k hk8 => (hl0.2 k hk8).1)) (Nat.le_of_eq hz0) hT hq2.1 hq2.2 (NP_nw _ _ _ _ _))
        exact hE _ _ _ _ _ _ (kr_i dX6_rename_43) hS (by decide) (by decide) hcw
      ·
        refine ctV (rest := []) S hK (c_X6_keep_n l G o σ ρ nb h24 (by omega)) cw_X6_63 rfl ⟨Nat.le_of_ble_eq_true rfl, Nat.le_of_ble_eq_true rfl⟩ ⟨Nat.le_of_ble_eq_true rfl, Nat.le_of_ble_eq_true rfl⟩ (bk.recv hK hX rfl rfl) hl.1 rfl (Nat.le_of_ble_eq_true rfl) dX6_rename_40 ⟨hX, hRF⟩ hS (fun q h => by omega) (fun H locs hPost hz hk hS => ?_)
        obtain ⟨hX, hRF⟩ := hPost
        replace hF := hF.over hk (fun q h1 h2 => by have h3 : q < o + 6 + 4 := h2; intro hA1; omega)
        replace hB := hB.over hk (fun q h1 h2 => by have h3 : q < pa vp + 4 := h2; intro hA1; omega)
        replace hT := hT.over hk (fun q h1 h2 => by have h3 : q < nb + 4 := h2; intro hA1; omega)
        have hr : rename_M μ (nI vp) (nI j) = ((-6), rfM μ 6) := by unfold rename_M; rw [hivp, if_pos (by rfl), hcxvp, c_24, if_pos (by rfl), if_pos (by omega)]
        refine w_top (v' := .int ((rename_M μ (nI vp) (nI j)).1)) (congrArg (fun z => Value.int z) (congrArg Prod.fst hr).symm) ?_
        have hcw := CW_r (G := G) (o := o) (om := om) hr (CW_x hCW hS (fun q h => by omega) hX hF hRF (RX_rf hRX) (KP_rf μ _))
        exact hE _ _ _ _ _ _ (kr_i dX6_rename_43) hS (by decide) (by decide) hcw
    ·
      refine lv_aload_n hx hb dX6_rename_27 rfl (lv_at hl 1 rfl) ?_
      refine lv_bipush (v := (-3)) hx hb dX6_rename_28 (by decide) ?_
      refine ctV (rest := []) S hK (c_X6_refuse l G o σ ρ (-3) 3 rfl (by decide)) cw_X6_42 rfl ⟨Nat.le_of_ble_eq_true rfl, Nat.le_of_ble_eq_true rfl⟩ ⟨Nat.le_of_ble_eq_true rfl, Nat.le_of_ble_eq_true rfl⟩ (bk.recv hK hX rfl rfl) hl.1 rfl (Nat.le_of_ble_eq_true rfl) dX6_rename_30 ⟨hX, hRF⟩ hS (fun _ h => by first | exact h | omega) (fun H locs hPost hz2 hk hS => ?_)
      obtain ⟨hX, hRF⟩ := hPost
      replace hF := hF.over hk (fun q h1 h2 => by have h3 : q < o + 6 + 4 := h2; intro hA1; omega)
      replace hB := hB.over hk (fun q h1 h2 => by have h3 : q < pa vp + 4 := h2; intro hA1; omega)
      have hr : rename_M μ (nI vp) d = ((-3), rfM μ 3) := by unfold rename_M; rw [hivp, if_pos (by rfl), hcxvp, c_24, if_neg (by decide)]
      refine w_top (v' := .int ((rename_M μ (nI vp) d).1)) (congrArg (fun z => Value.int z) (congrArg Prod.fst hr).symm) ?_
      have hcw := CW_r (G := G) (o := o) (om := om) hr (CW_x hCW hS (fun q h => by first | exact Or.inl h | omega) hX hF hRF (RX_rf hRX) (KP_rf μ _))
      exact hE _ _ _ _ _ _ (kr_i dX6_rename_33) hS (by decide) (by decide) hcw

set_option maxHeartbeats 1000000 in
set_option maxRecDepth 100000 in
theorem c_X6_rowStandsOn (l : Launch) (G : Gt) (o : Nat) (σ : Sx) (μ : Sx) (w : Nat) (h : Nat) (hR1 : σ.1 9 = μ.1 20) (hR2 : σ.2.1 8 = μ.2.1 15) (hr0 : MIr μ) (hw5 : w ≤ 5) (hh4 : h ≤ 4) : Cr l G yX6_rowStandsOn cX6_rowStandsOn 7 ((some .boolean)) 1 [.ref o, .int (nI w), .int (nI h)] (fun H => bk G o (xL G o σ) H) (some (.int (b2i (decide (rowP μ w h))))) := by
  refine cr_entry [(0, .ref o), (1, .int (nI w)), (2, .int (nI h))] (by decide) (Nat.le_of_ble_eq_true rfl) rfl ?_
  intro zp ze zs zm za zb zt zc Q S hK hPre hE ls hl
  have hx := S.1
  have hb := S.2.1
  have hX := hPre
  obtain ⟨h3, h99⟩ := id hr0
  refine lv_iconst (v := nI 0) hx hb dX6_rowStandsOn_0 (by decide) ?_
  refine lv_istore_n (lv' := [(3, .int (nI 0)), (0, .ref o), (1, .int (nI w)), (2, .int (nI h))]) hx hb dX6_rowStandsOn_1 rfl hl (by decide) rfl (fun ls hl => ?_)
  refine lv_iconst (v := nI 0) hx hb dX6_rowStandsOn_2 (by decide) ?_
  refine lv_istore (lv' := [(4, .int (nI 0)), (3, .int (nI 0)), (0, .ref o), (1, .int (nI w)), (2, .int (nI h))]) hx hb dX6_rowStandsOn_3 hl (by decide) rfl (fun ls hl => ?_)
  have L5 : ∀ (fu : Nat), ∀ (vi : Nat), (vi ≤ μ.1 20) → (∀ k, k < vi → (μ.2.1 15 k / 10 < w ∧ μ.2.1 15 k % 10 < h) ∧ ∀ i, i < k → ¬ μ.2.1 15 i = μ.2.1 15 k) → μ.1 20 - vi < fu → ∀ ls : Array Slot, lv_has ls 7 [(0, .ref o), (1, .int (nI w)), (2, .int (nI h)), (3, .int (nI (rsB (μ.2.1 15) vi))), (4, .int (nI vi))] → W zp l ze (rL 1 0 0) zs zm za zb zt zc zs.heap [] 0 0 Q (F0 zm 5 ls []) := by
    intro fu
    induction fu with
    | zero =>
      intro vi hvi hA hmu ls hl
      exact absurd hmu (Nat.not_lt_zero _)
    | succ fu ih5 =>
      intro vi hvi hA hmu ls hl
      refine lv_iload hx hb dX6_rowStandsOn_5 (lv_at hl 4 rfl) ?_
      refine lv_aload_n hx hb dX6_rowStandsOn_7 rfl (lv_at hl 0 rfl) ?_
      refine kg (C := RX6) (T := TX6) (N := 12) (ci := 4) (k := 9) (v := .int (nI (σ.1 9))) S hK rfl inX6 (by decide) q_133 dX6_rowStandsOn_8 hX rfl rfl ?_
      refine n_icmp_ge (tgt := 80) hx hb dX6_rowStandsOn_11 (by decide) (by first | omega | exact Nat.lt_of_le_of_lt Nat.and_le_right (shl_lt (by omega))) (by first | omega | exact Nat.lt_of_le_of_lt Nat.and_le_right (shl_lt (by omega))) (fun c_11 => ?_) (fun c_11 => ?_)
      ·
        refine lv_aload_n hx hb dX6_rowStandsOn_80 rfl (lv_at hl 0 rfl) ?_
        refine kg (C := RX6) (T := TX6) (N := 12) (ci := 4) (k := 9) (v := .int (nI (σ.1 9))) S hK rfl inX6 (by decide) q_133 dX6_rowStandsOn_81 hX rfl rfl ?_
        refine w_top (v' := .int (nI (μ.1 20))) (congrArg (fun z => Value.int (nI z)) hR1) ?_
        refine n_if_le (tgt := 91) hx hb dX6_rowStandsOn_84 (by decide) (by first | omega | exact Nat.lt_of_le_of_lt Nat.and_le_right (shl_lt (by omega))) (fun c_84 => ?_) (fun c_84 => ?_)
        ·
          have hr : decide (rowP μ w h) = false := decide_eq_false (fun q => by have := q.1; omega)
          refine lv_iconst (v := nI 0) hx hb dX6_rowStandsOn_91 (by decide) ?_
          refine w_top (v' := .int (b2i (decide (rowP μ w h)))) (bz_f (show (decide (rowP μ w h)) = false from hr)) ?_
          exact hE _ _ (kr_z dX6_rowStandsOn_92)
        ·
          have hr : decide (rowP μ w h) = true := decide_eq_true ⟨by omega, fun k hk8 => hA k (by omega)⟩
          refine lv_iconst (v := nI 1) hx hb dX6_rowStandsOn_87 (by decide) ?_
          refine lv_goto (tgt := 92) hx hb dX6_rowStandsOn_88 (by decide) ?_
          refine w_top (v' := .int (b2i (decide (rowP μ w h)))) (bz_t (show (decide (rowP μ w h)) = true from hr)) ?_
          exact hE _ _ (kr_z dX6_rowStandsOn_92)
      ·
        have hv99 := h99 vi (by omega)
        refine lv_aload_n hx hb dX6_rowStandsOn_14 rfl (lv_at hl 0 rfl) ?_
        refine kg (C := RX6) (T := TX6) (N := 12) (ci := 4) (k := 8) (v := .ref (o + 5)) S hK rfl inX6 (by decide) q_132 dX6_rowStandsOn_15 hX rfl rfl ?_
        refine lv_iload hx hb dX6_rowStandsOn_18 (lv_at hl 4 rfl) ?_
        refine kil (f := σ.2.1 8) S hK dX6_rowStandsOn_20 5 hX rfl (by decide) rfl (by omega) ?_
        refine w_top (v' := .int (nI (μ.2.1 15 vi))) (congrArg (fun z => Value.int (nI z)) (congrFun hR2 vi)) ?_
        refine lv_bipush (v := nI 10) hx hb dX6_rowStandsOn_21 (by decide) ?_
        refine n_idiv hx hb dX6_rowStandsOn_23 (by first | omega | exact Nat.lt_of_le_of_lt Nat.and_le_right (shl_lt (by omega))) (by decide) (by decide) ?_
        refine lv_istore (lv' := [(5, .int (nI ((μ.2.1 15 vi) / 10))), (0, .ref o), (1, .int (nI w)), (2, .int (nI h)), (3, .int (nI (rsB (μ.2.1 15) vi))), (4, .int (nI vi))]) hx hb dX6_rowStandsOn_24 hl (by decide) rfl (fun ls hl => ?_)
        refine lv_aload_n hx hb dX6_rowStandsOn_26 rfl (lv_at hl 1 rfl) ?_
        refine kg (C := RX6) (T := TX6) (N := 12) (ci := 4) (k := 8) (v := .ref (o + 5)) S hK rfl inX6 (by decide) q_132 dX6_rowStandsOn_27 hX rfl rfl ?_
        refine lv_iload hx hb dX6_rowStandsOn_30 (lv_at hl 5 rfl) ?_
        refine kil (f := σ.2.1 8) S hK dX6_rowStandsOn_32 5 hX rfl (by decide) rfl (by omega) ?_
        refine w_top (v' := .int (nI (μ.2.1 15 vi))) (congrArg (fun z => Value.int (nI z)) (congrFun hR2 vi)) ?_
        refine lv_bipush (v := nI 10) hx hb dX6_rowStandsOn_33 (by decide) ?_
        refine n_irem hx hb dX6_rowStandsOn_35 (by first | omega | exact Nat.lt_of_le_of_lt Nat.and_le_right (shl_lt (by omega))) (by decide) (by decide) ?_
        refine lv_istore (lv' := [(6, .int (nI ((μ.2.1 15 vi) % 10))), (5, .int (nI ((μ.2.1 15 vi) / 10))), (0, .ref o), (1, .int (nI w)), (2, .int (nI h)), (3, .int (nI (rsB (μ.2.1 15) vi))), (4, .int (nI vi))]) hx hb dX6_rowStandsOn_36 hl (by decide) rfl (fun ls hl => ?_)
        refine lv_iload hx hb dX6_rowStandsOn_38 (lv_at hl 1 rfl) ?_
        refine lv_iload_n hx hb dX6_rowStandsOn_40 rfl (lv_at hl 3 rfl) ?_
        refine n_icmp_ge (tgt := 62) hx hb dX6_rowStandsOn_41 (by decide) (by first | omega | exact Nat.lt_of_le_of_lt Nat.and_le_right (shl_lt (by omega))) (by first | omega | exact Nat.lt_of_le_of_lt Nat.and_le_right (shl_lt (by omega))) (fun c_41 => ?_) (fun c_41 => ?_)
        ·
          have hr : decide (rowP μ w h) = false := decide_eq_false (fun q => by
            have z := q.2 vi (by omega)
            omega)
          refine lv_iconst (v := nI 0) hx hb dX6_rowStandsOn_62 (by decide) ?_
          refine w_top (v' := .int (b2i (decide (rowP μ w h)))) (bz_f (show (decide (rowP μ w h)) = false from hr)) ?_
          exact hE _ _ (kr_z dX6_rowStandsOn_63)
        ·
          refine lv_iload hx hb dX6_rowStandsOn_44 (lv_at hl 0 rfl) ?_
          refine lv_iload_n hx hb dX6_rowStandsOn_46 rfl (lv_at hl 4 rfl) ?_
          refine n_icmp_ge (tgt := 62) hx hb dX6_rowStandsOn_47 (by decide) (Nat.lt_trans (Nat.mod_lt _ (by decide)) (by decide)) (by first | omega | exact Nat.lt_of_le_of_lt Nat.and_le_right (shl_lt (by omega))) (fun c_47 => ?_) (fun c_47 => ?_)
          ·
            have hr : decide (rowP μ w h) = false := decide_eq_false (fun q => by
              have z := q.2 vi (by omega)
              omega)
            refine lv_iconst (v := nI 0) hx hb dX6_rowStandsOn_62 (by decide) ?_
            refine w_top (v' := .int (b2i (decide (rowP μ w h)))) (bz_f (show (decide (rowP μ w h)) = false from hr)) ?_
            exact hE _ _ (kr_z dX6_rowStandsOn_63)
          ·
            refine lv_iload_n hx hb dX6_rowStandsOn_50 rfl (lv_at hl 5 rfl) ?_
            refine lv_iload hx hb dX6_rowStandsOn_51 (lv_at hl 1 rfl) ?_
            refine lv_iload hx hb dX6_rowStandsOn_53 (lv_at hl 0 rfl) ?_
            refine crS (rest := [.int (nI (rsB (μ.2.1 15) vi))]) S hK (c_X0_bitOf l G ((μ.2.1 15 vi) / 10) ((μ.2.1 15 vi) % 10) (by omega) (by omega)) cw_X6_150 rfl ⟨Nat.le_of_ble_eq_true rfl, Nat.le_of_ble_eq_true rfl⟩ ⟨Nat.le_of_ble_eq_true rfl, Nat.le_of_ble_eq_true rfl⟩ hl.1 rfl (Nat.le_of_ble_eq_true rfl) dX6_rowStandsOn_55 trivial ?_
            refine n_iand hx hb dX6_rowStandsOn_58 ?_
            refine n_if_eq (tgt := 64) hx hb dX6_rowStandsOn_59 (by decide) (by first | omega | exact Nat.lt_of_le_of_lt Nat.and_le_right (shl_lt (by omega))) (fun c_59 => ?_) (fun c_59 => ?_)
            ·
              refine lv_iload_n hx hb dX6_rowStandsOn_64 rfl (lv_at hl 5 rfl) ?_
              refine lv_iload hx hb dX6_rowStandsOn_65 (lv_at hl 1 rfl) ?_
              refine lv_iload hx hb dX6_rowStandsOn_67 (lv_at hl 0 rfl) ?_
              refine crS (rest := [.int (nI (rsB (μ.2.1 15) vi))]) S hK (c_X0_bitOf l G ((μ.2.1 15 vi) / 10) ((μ.2.1 15 vi) % 10) (by omega) (by omega)) cw_X6_150 rfl ⟨Nat.le_of_ble_eq_true rfl, Nat.le_of_ble_eq_true rfl⟩ ⟨Nat.le_of_ble_eq_true rfl, Nat.le_of_ble_eq_true rfl⟩ hl.1 rfl (Nat.le_of_ble_eq_true rfl) dX6_rowStandsOn_69 trivial ?_
              refine n_ior hx hb dX6_rowStandsOn_72 ?_
              refine lv_istore_n (lv' := [(3, .int (nI ((rsB (μ.2.1 15) vi) ||| (1 <<< (5 * ((μ.2.1 15 vi) % 10) + ((μ.2.1 15 vi) / 10)))))), (6, .int (nI ((μ.2.1 15 vi) % 10))), (5, .int (nI ((μ.2.1 15 vi) / 10))), (0, .ref o), (1, .int (nI w)), (2, .int (nI h)), (4, .int (nI vi))]) hx hb dX6_rowStandsOn_73 rfl hl (by decide) rfl (fun ls hl => ?_)
              refine lv_iinc (v := (nI (vi + 1))) (lv' := [(4, .int (nI (vi + 1))), (3, .int (nI ((rsB (μ.2.1 15) vi) ||| (1 <<< (5 * ((μ.2.1 15 vi) % 10) + ((μ.2.1 15 vi) / 10)))))), (6, .int (nI ((μ.2.1 15 vi) % 10))), (5, .int (nI ((μ.2.1 15 vi) / 10))), (0, .ref o), (1, .int (nI w)), (2, .int (nI h))]) hx hb dX6_rowStandsOn_74 hl (k := 6) rfl (inc1 _) (by decide) rfl (fun ls hl => ?_)
              refine lv_goto (tgt := 5) hx hb dX6_rowStandsOn_77 (by decide) ?_
              replace hl := lv_eq 1 hl rfl (v2 := .int (nI (rsB (μ.2.1 15) (vi + 1)))) (congrArg (fun z => Value.int (nI z)) (show ((rsB (μ.2.1 15) vi) ||| (1 <<< (5 * ((μ.2.1 15 vi) % 10) + ((μ.2.1 15 vi) / 10)))) = (rsB (μ.2.1 15) (vi + 1)) from by first | rfl | omega))
              exact ih5 (vi + 1) (by omega) (fun k hk8 => by
                by_cases e : k = vi
                · subst e
                  refine ⟨⟨by omega, by omega⟩, fun i hi z => ?_⟩
                  have y := (rsB_tb (μ.2.1 15) (5 * (μ.2.1 15 k % 10) + μ.2.1 15 k / 10) k).mpr ⟨i, hi, by rw [z]⟩
                  rw [and_bit0.mp c_59] at y
                  cases y
                · exact hA k (by omega)) (by omega) ls (lv_sub hl [4, 5, 6, 1, 0] rfl)
            ·
              have hr : decide (rowP μ w h) = false := decide_eq_false (fun q => by
                have z := q.2 vi (by omega)
                obtain ⟨k, hk8, e⟩ := (rsB_tb (μ.2.1 15) (5 * (μ.2.1 15 vi % 10) + μ.2.1 15 vi / 10) vi).mp (by have y := mt and_bit0.mpr c_59; simpa using y)
                have a := (hA k hk8).1
                exact z.2 k hk8 (by omega))
              refine lv_iconst (v := nI 0) hx hb dX6_rowStandsOn_62 (by decide) ?_
              refine w_top (v' := .int (b2i (decide (rowP μ w h)))) (bz_f (show (decide (rowP μ w h)) = false from hr)) ?_
              exact hE _ _ (kr_z dX6_rowStandsOn_63)
  replace hl := lv_eq 1 hl rfl (v2 := .int (nI (rsB (μ.2.1 15) 0))) (congrArg (fun z => Value.int (nI z)) (show 0 = (rsB (μ.2.1 15) 0) from by first | rfl | omega))
  exact L5 ((μ.1 20 - 0) + 1) 0 (Nat.zero_le _) (fun k hk8 => absurd hk8 (Nat.not_lt_zero k)) (Nat.lt_succ_self _) ls (lv_sub hl [2, 3, 4, 1, 0] rfl)

theorem fcA_s {μ : Sx} {w h k : Nat} (q : rowP μ w h) (hk : k < μ.1 20) : fcA μ (μ.2.1 15 k) = some k := by
  rcases hz : fcA μ (μ.2.1 15 k) with _ | j
  · have := fnd_none _ 0 hz k (Nat.zero_le _) (by omega)
    rw [decide_eq_true rfl] at this
    cases this
  · obtain ⟨-, h2, h3⟩ := fnd_lt _ 0 hz
    have e := of_decide_eq_true h3
    rcases Nat.lt_trichotomy j k with y | y | y
    · exact absurd e ((q.2 k hk).2 j y)
    · rw [y]
    · exact absurd e.symm ((q.2 j (by omega)).2 k y)
theorem fcA_x {μ : Sx} {w h xy g : Nat} (q : rowP μ w h) (e : fcA μ xy = some g) : g < μ.1 20 ∧ μ.2.1 15 g = xy := by
  obtain ⟨-, h2, h3⟩ := fnd_lt _ 0 e
  exact ⟨by omega, of_decide_eq_true h3⟩
theorem row_k {a x y : Nat} (h1 : a / 10 < 5) (h2 : a % 10 < 5) (hx : x < 5) (hy : y < 5) : 5 * (a % 10) + a / 10 = 5 * y + x ↔ a = 10 * x + y := by omega
theorem BS_ly {μ : Sx} {w h bl : Nat} (hr : MIr μ) (q : rowP μ w h) (hw : w ≤ 5) (hh : h ≤ 4) : BS w h (μ.1 20) (lyC μ w h bl) := by
  have h3 := hr.1
  have a0 := (q.2 0 q.1).1
  have hcode : ∀ k, k < 20 → (k % 5 < w ∧ k / 5 < h) → lyC μ w h bl k = lyV μ w bl (k / 5) (k % 5) := fun k _ z => if_pos z
  have hface : ∀ k, k < 20 → 10 ≤ lyC μ w h bl k → (k % 5 < w ∧ k / 5 < h) ∧ ∃ g, fcA μ (10 * (k % 5) + k / 5) = some g ∧ lyC μ w h bl k = 10 + g := by
    intro k hk h10
    by_cases z : k % 5 < w ∧ k / 5 < h
    · refine ⟨z, ?_⟩
      rcases hf : fcA μ (10 * (k % 5) + k / 5) with _ | g
      · rw [hcode k hk z, lyV_n hf] at h10
        split at h10 <;> omega
      · exact ⟨g, rfl, by rw [hcode k hk z, lyV_s hf]⟩
    · rw [lyC_0 _ _ _ _ _ z] at h10
      omega
  refine ⟨⟨⟨by omega, hw⟩, ⟨by omega, hh⟩, by omega⟩, fun k _ z => lyC_0 _ _ _ _ _ z, fun k hk => ?_, fun j hj => ?_, fun k i hk hi h10 e => ?_⟩
  · by_cases h10 : 10 ≤ lyC μ w h bl k
    · obtain ⟨-, g, hg, e⟩ := hface k hk h10
      have := (fcA_x q hg).1
      exact Or.inr (Or.inr ⟨h10, by omega⟩)
    · by_cases z : k % 5 < w ∧ k / 5 < h
      · rw [hcode k hk z] at h10 ⊢
        rcases hf : fcA μ (10 * (k % 5) + k / 5) with _ | g
        · rw [lyV_n hf]
          split
          · exact Or.inl rfl
          · exact Or.inr (Or.inl rfl)
        · rw [lyV_s hf] at h10
          omega
      · exact Or.inl (lyC_0 _ _ _ _ _ z)
  · have b := (q.2 j hj).1
    refine ⟨5 * (μ.2.1 15 j % 10) + μ.2.1 15 j / 10, by omega, ?_⟩
    rw [hcode _ (by omega) (by omega), show (5 * (μ.2.1 15 j % 10) + μ.2.1 15 j / 10) / 5 = μ.2.1 15 j % 10 from by omega, show (5 * (μ.2.1 15 j % 10) + μ.2.1 15 j / 10) % 5 = μ.2.1 15 j / 10 from by omega]
    exact lyV_s (by rw [show 10 * (μ.2.1 15 j / 10) + μ.2.1 15 j % 10 = μ.2.1 15 j from by omega]; exact fcA_s q hj)
  · obtain ⟨z1, g1, hg1, e1⟩ := hface k hk h10
    obtain ⟨z2, g2, hg2, e2⟩ := hface i hi (by omega)
    have x1 := (fcA_x q hg1).2
    have x2 := (fcA_x q hg2).2
    have : g1 = g2 := by omega
    subst this
    omega
theorem fcA_n {μ : Sx} {w h x y : Nat} (q : rowP μ w h) (hw : w ≤ 5) (hh : h ≤ 4) (hx : x < w) (hy : y < h) (e : (rsB (μ.2.1 15) (μ.1 20)).testBit (5 * y + x) = false) : fcA μ (10 * x + y) = none := by
  rcases hf : fcA μ (10 * x + y) with _ | g
  · rfl
  · obtain ⟨h1, h2⟩ := fcA_x q hf
    have := (rsB_tb (μ.2.1 15) (5 * y + x) (μ.1 20)).mpr ⟨g, h1, by rw [h2]; omega⟩
    rw [e] at this
    cases this

set_option maxHeartbeats 1000000 in
set_option maxRecDepth 100000 in
theorem c_X6_boardOfRow (l : Launch) (G : Gt) (nb : Nat) (o : Nat) (σ : Sx) (μ : Sx) (w : Nat) (h : Nat) (hR1 : σ.1 9 = μ.1 20) (hR2 : σ.2.1 8 = μ.2.1 15) (hr0 : MIr μ) (hw5 : w ≤ 5) (hh4 : h ≤ 4) (hq : rowP μ w h) : Ct l G yX6_boardOfRow cX6_boardOfRow 7 ((some (.object "PuzzleParts$Board"))) 2 4 66 [.ref o, .int (nI w), .int (nI h)] (fun H => bk G o (xL G o σ) H ∧ H.size = nb) (some (.ref nb)) (fun H => bk G o (xL G o σ) H ∧ (∃ τ : Sx, bk G nb (bdL G nb τ) H ∧ PD w h (lyC μ w h 0) τ) ∧ H.size = nb + 4) (fun q => nb ≤ q) := by
  refine ct_entry [(0, .ref o), (1, .int (nI w)), (2, .int (nI h))] (by decide) (Nat.le_of_ble_eq_true rfl) rfl ?_
  intro zp ze zs zm za zb zt zc Q S hK hPre hin hE ls hl
  have hx := S.1
  have hb := S.2.1
  obtain ⟨hX, hz⟩ := hPre
  have hS : va_S (fun q => nb ≤ q) zs.heap zs.heap [] := va_S.rf
  obtain ⟨h3, h99⟩ := id hr0
  have hb4 : o + 6 ≤ nb := by have q := bk.lt (k := 5) hX (show 5 < 6 by decide); omega
  have hUd := BS_uq (BS_ly (bl := 0) hr0 hq hw5 hh4)
  have hq1 := hq.2
  refine kn (C := RX0) (T := TX0) (N := 9) (ci := 0) tyX0 tyX0_ok S hK rfl inX0 q_97 q_189 q_83 [.int (nI 0), .int (nI 0), .null, .int (nI 0), .int (nI 0), .null, .null, .long (lN 0), .long (lN 0)] (fun j hj => by first | (rcases (show j = 0 ∨ j = 1 ∨ j = 2 ∨ j = 3 ∨ j = 4 ∨ j = 5 ∨ j = 6 ∨ j = 7 ∨ j = 8 by omega) with rfl | rfl | rfl | rfl | rfl | rfl | rfl | rfl | rfl <;> rfl)) dX6_boardOfRow_0 (by decide) (by decide) (h := nb) hz hS (fun H hT hS hz hk => ?_)
  replace hX := hX.kept (fun q h1 h2 => hk q (by have h3 : q < o + 6 := h2; omega))
  refine lv_dup hx hb dX6_boardOfRow_3 rfl ?_
  refine lv_iload_n hx hb dX6_boardOfRow_4 rfl (lv_at hl 1 rfl) ?_
  refine lv_iload_n hx hb dX6_boardOfRow_5 rfl (lv_at hl 2 rfl) ?_
  refine ctI (rest := [.ref nb]) S hK (c_X0_init l G nb w h) cw_X6_259 rfl ⟨Nat.le_of_ble_eq_true rfl, Nat.le_of_ble_eq_true rfl⟩ ⟨Nat.le_of_ble_eq_true rfl, Nat.le_of_ble_eq_true rfl⟩ hl.1 rfl (Nat.le_of_ble_eq_true rfl) dX6_boardOfRow_6 ⟨hT, hz⟩ hS (fun _ h => by first | exact h | omega) (fun H locs hPost hz2 hk hS => ?_)
  obtain ⟨hT, hz⟩ := hPost
  replace hX := hX.over hk (fun q h1 h2 => by have h3 : q < o + 6 := h2; intro hA1; omega)
  refine lv_astore_n (lv' := [(3, .ref nb), (0, .ref o), (1, .int (nI w)), (2, .int (nI h))]) hx hb dX6_boardOfRow_9 rfl hl (by decide) rfl (fun ls hl => ?_)
  refine lv_iconst (v := nI 0) hx hb dX6_boardOfRow_10 (by decide) ?_
  refine lv_istore (lv' := [(4, .int (nI 0)), (3, .ref nb), (0, .ref o), (1, .int (nI w)), (2, .int (nI h))]) hx hb dX6_boardOfRow_11 hl (by decide) rfl (fun ls hl => ?_)
  refine lv_iconst (v := nI 0) hx hb dX6_boardOfRow_13 (by decide) ?_
  refine lv_istore (lv' := [(5, .int (nI 0)), (4, .int (nI 0)), (3, .ref nb), (0, .ref o), (1, .int (nI w)), (2, .int (nI h))]) hx hb dX6_boardOfRow_14 hl (by decide) rfl (fun ls hl => ?_)
  have L16 : ∀ (fu : Nat), ∀ (vi : Nat) (τ : Sx), (vi ≤ μ.1 20) → (PD w h (pt (fun k => (rsB (μ.2.1 15) vi).testBit k) (lyC μ w h 0)) τ) → μ.1 20 - vi < fu → ∀ (H : Heap) (locs : List Loc), bk G o (xL G o σ) H → bk G nb (bdL G nb τ) H → va_S (fun q => nb ≤ q) zs.heap H locs → H.size = nb + 4 → ∀ ls : Array Slot, lv_has ls 7 [(0, .ref o), (1, .int (nI w)), (2, .int (nI h)), (3, .ref nb), (4, .int (nI (rsB (μ.2.1 15) vi))), (5, .int (nI vi))] → W zp l ze (rL 2 4 66) zs zm za zb zt zc H locs 4 66 Q (F0 zm 16 ls []) := by
    intro fu
    induction fu with
    | zero =>
      intro vi τ hvi hP hmu H locs hX hT hS hz ls hl
      exact absurd hmu (Nat.not_lt_zero _)
    | succ fu ih16 =>
      intro vi τ hvi hP hmu H locs hX hT hS hz ls hl
      refine lv_iload hx hb dX6_boardOfRow_16 (lv_at hl 5 rfl) ?_
      refine lv_aload_n hx hb dX6_boardOfRow_18 rfl (lv_at hl 0 rfl) ?_
      refine kg (C := RX6) (T := TX6) (N := 12) (ci := 4) (k := 9) (v := .int (nI (σ.1 9))) S hK rfl inX6 (by decide) q_133 dX6_boardOfRow_19 hX rfl rfl ?_
      refine n_icmp_ge (tgt := 88) hx hb dX6_boardOfRow_22 (by decide) (by first | omega | exact Nat.lt_of_le_of_lt Nat.and_le_right (shl_lt (by omega))) (by first | omega | exact Nat.lt_of_le_of_lt Nat.and_le_right (shl_lt (by omega))) (fun c_22 => ?_) (fun c_22 => ?_)
      ·
        have hve : vi = μ.1 20 := by omega
        refine lv_iconst (v := nI 0) hx hb dX6_boardOfRow_88 (by decide) ?_
        refine lv_istore (lv' := [(5, .int (nI 0)), (0, .ref o), (1, .int (nI w)), (2, .int (nI h)), (3, .ref nb), (4, .int (nI (rsB (μ.2.1 15) vi)))]) hx hb dX6_boardOfRow_89 hl (by decide) rfl (fun ls hl => ?_)
        have L91 : ∀ (fu : Nat), ∀ (vy : Nat) (τ : Sx), (vy ≤ h) → (PD w h (pt (fun k => (rsB (μ.2.1 15) (μ.1 20)).testBit k || dnI w h vy 0 k) (lyC μ w h 0)) τ) → h - vy < fu → ∀ (H : Heap) (locs : List Loc), bk G o (xL G o σ) H → bk G nb (bdL G nb τ) H → va_S (fun q => nb ≤ q) zs.heap H locs → H.size = nb + 4 → ∀ ls : Array Slot, lv_has ls 7 [(0, .ref o), (1, .int (nI w)), (2, .int (nI h)), (3, .ref nb), (4, .int (nI (rsB (μ.2.1 15) (μ.1 20)))), (5, .int (nI vy))] → W zp l ze (rL 2 4 66) zs zm za zb zt zc H locs 4 66 Q (F0 zm 91 ls []) := by
          intro fu
          induction fu with
          | zero =>
            intro vy τ hvy hP4 hmu H locs hX hT hS hz ls hl
            exact absurd hmu (Nat.not_lt_zero _)
          | succ fu ih91 =>
            intro vy τ hvy hP4 hmu H locs hX hT hS hz ls hl
            refine lv_iload hx hb dX6_boardOfRow_91 (lv_at hl 5 rfl) ?_
            refine lv_iload_n hx hb dX6_boardOfRow_93 rfl (lv_at hl 2 rfl) ?_
            refine n_icmp_ge (tgt := 140) hx hb dX6_boardOfRow_94 (by decide) (by first | omega | exact Nat.lt_of_le_of_lt Nat.and_le_right (shl_lt (by omega))) (by first | omega | exact Nat.lt_of_le_of_lt Nat.and_le_right (shl_lt (by omega))) (fun c_94 => ?_) (fun c_94 => ?_)
            ·
              refine lv_aload_n hx hb dX6_boardOfRow_140 rfl (lv_at hl 3 rfl) ?_
              exact hE _ _ _ _ _ _ (kr_a dX6_boardOfRow_141) hS (by decide) (by decide) ⟨hX, ⟨_, hT, PD_congr hP4 (pt_all (fun k hk8 => by
                by_cases z : k % 5 < w ∧ k / 5 < h
                · exact Or.inl (by rw [show dnI w h vy 0 k = true from decide_eq_true (by omega), Bool.or_true])
                · exact Or.inr (lyC_0 _ _ _ _ _ z)))⟩, hz⟩
            ·
              refine lv_iconst (v := nI 0) hx hb dX6_boardOfRow_97 (by decide) ?_
              refine lv_istore (lv' := [(6, .int (nI 0)), (0, .ref o), (1, .int (nI w)), (2, .int (nI h)), (3, .ref nb), (4, .int (nI (rsB (μ.2.1 15) (μ.1 20)))), (5, .int (nI vy))]) hx hb dX6_boardOfRow_98 hl (by decide) rfl (fun ls hl => ?_)
              have L100 : ∀ (fu : Nat), ∀ (vx : Nat) (τ : Sx), (vx ≤ w) → (PD w h (pt (fun k => (rsB (μ.2.1 15) (μ.1 20)).testBit k || dnI w h vy vx k) (lyC μ w h 0)) τ) → w - vx < fu → ∀ (H : Heap) (locs : List Loc), bk G o (xL G o σ) H → bk G nb (bdL G nb τ) H → va_S (fun q => nb ≤ q) zs.heap H locs → H.size = nb + 4 → ∀ ls : Array Slot, lv_has ls 7 [(0, .ref o), (1, .int (nI w)), (2, .int (nI h)), (3, .ref nb), (4, .int (nI (rsB (μ.2.1 15) (μ.1 20)))), (5, .int (nI vy)), (6, .int (nI vx))] → W zp l ze (rL 2 4 66) zs zm za zb zt zc H locs 4 66 Q (F0 zm 100 ls []) := by
                intro fu
                induction fu with
                | zero =>
                  intro vx τ hvx hP5 hmu H locs hX hT hS hz ls hl
                  exact absurd hmu (Nat.not_lt_zero _)
                | succ fu ih100 =>
                  intro vx τ hvx hP5 hmu H locs hX hT hS hz ls hl
                  refine lv_iload hx hb dX6_boardOfRow_100 (lv_at hl 6 rfl) ?_
                  refine lv_iload_n hx hb dX6_boardOfRow_102 rfl (lv_at hl 1 rfl) ?_
                  refine n_icmp_ge (tgt := 134) hx hb dX6_boardOfRow_103 (by decide) (by first | omega | exact Nat.lt_of_le_of_lt Nat.and_le_right (shl_lt (by omega))) (by first | omega | exact Nat.lt_of_le_of_lt Nat.and_le_right (shl_lt (by omega))) (fun c_103 => ?_) (fun c_103 => ?_)
                  ·
                    refine lv_iinc (v := (nI (vy + 1))) (lv' := [(5, .int (nI (vy + 1))), (0, .ref o), (1, .int (nI w)), (2, .int (nI h)), (3, .ref nb), (4, .int (nI (rsB (μ.2.1 15) (μ.1 20)))), (6, .int (nI vx))]) hx hb dX6_boardOfRow_134 hl (k := 5) rfl (inc1 _) (by decide) rfl (fun ls hl => ?_)
                    refine lv_goto (tgt := 91) hx hb dX6_boardOfRow_137 (by decide) ?_
                    exact ih91 (vy + 1) τ (by omega) (PD_congr hP5 (pt_c (fun k hk8 => or_r (dec_e (by omega))))) (by omega) _ _ hX hT hS hz ls (lv_sub hl [1, 2, 3, 4, 5, 0] rfl)
                  ·
                    refine lv_iload hx hb dX6_boardOfRow_106 (lv_at hl 4 rfl) ?_
                    refine lv_iload hx hb dX6_boardOfRow_108 (lv_at hl 6 rfl) ?_
                    refine lv_iload hx hb dX6_boardOfRow_110 (lv_at hl 5 rfl) ?_
                    refine crS (rest := [.int (nI (rsB (μ.2.1 15) (μ.1 20)))]) S hK (c_X0_bitOf l G vx vy (by omega) (by omega)) cw_X6_150 rfl ⟨Nat.le_of_ble_eq_true rfl, Nat.le_of_ble_eq_true rfl⟩ ⟨Nat.le_of_ble_eq_true rfl, Nat.le_of_ble_eq_true rfl⟩ hl.1 rfl (Nat.le_of_ble_eq_true rfl) dX6_boardOfRow_112 trivial ?_
                    refine n_iand hx hb dX6_boardOfRow_115 ?_
                    refine n_if_ne (tgt := 128) hx hb dX6_boardOfRow_116 (by decide) (by first | omega | exact Nat.lt_of_le_of_lt Nat.and_le_right (shl_lt (by omega))) (fun c_116 => ?_) (fun c_116 => ?_)
                    ·
                      refine lv_iinc (v := (nI (vx + 1))) (lv' := [(6, .int (nI (vx + 1))), (0, .ref o), (1, .int (nI w)), (2, .int (nI h)), (3, .ref nb), (4, .int (nI (rsB (μ.2.1 15) (μ.1 20)))), (5, .int (nI vy))]) hx hb dX6_boardOfRow_128 hl (k := 6) rfl (inc1 _) (by decide) rfl (fun ls hl => ?_)
                      refine lv_goto (tgt := 100) hx hb dX6_boardOfRow_131 (by decide) ?_
                      exact ih100 (vx + 1) τ (by omega) (PD_congr hP5 (pt_c (fun k hk8 => by
                        by_cases e : k = 5 * vy + vx
                        · have q := mt and_bit0.mpr c_116
                          rw [e, show (rsB (μ.2.1 15) (μ.1 20)).testBit (5 * vy + vx) = true from by simpa using q, Bool.true_or, Bool.true_or]
                        · exact or_r (dec_e (by omega))))) (by omega) _ _ hX hT hS hz ls (lv_sub hl [1, 2, 3, 4, 5, 6, 0] rfl)
                    ·
                      refine lv_aload_n hx hb dX6_boardOfRow_119 rfl (lv_at hl 3 rfl) ?_
                      refine lv_iload hx hb dX6_boardOfRow_120 (lv_at hl 6 rfl) ?_
                      refine lv_iload hx hb dX6_boardOfRow_122 (lv_at hl 5 rfl) ?_
                      refine lv_iconst (v := nI 1) hx hb dX6_boardOfRow_124 (by decide) ?_
                      have hbf := and_bit0.mp c_116
                      have hv9 : 1 = lyC μ w h 0 (5 * vy + vx) := by
                        unfold lyC
                        rw [if_pos (by omega), show (5 * vy + vx) / 5 = vy from by omega, show (5 * vy + vx) % 5 = vx from by omega, lyV_n (fcA_n hq hw5 hh4 (by omega) (by omega) hbf), Nat.zero_shiftRight]
                        rfl
                      refine ctVv (rest := []) S hK (c_X0_set l G (nb + 4) nb τ vx vy 1 w h (fun k => (rsB (μ.2.1 15) (μ.1 20)).testBit k || dnI w h vy vx k) (fun k => (rsB (μ.2.1 15) (μ.1 20)).testBit k || dnI w h vy (vx + 1) k) (lyC μ w h 0) hP5 (by omega) (by omega) (by omega) hUd (by rw [hbf, show dnI w h vy vx (5 * vy + vx) = false from decide_eq_false (by omega)]; rfl) (fun i hi => by
                        rw [Bool.or_assoc]
                        exact or_r (dec_or (by omega))) hv9) cw_X6_262 rfl ⟨Nat.le_of_ble_eq_true rfl, Nat.le_of_ble_eq_true rfl⟩ ⟨Nat.le_of_ble_eq_true rfl, Nat.le_of_ble_eq_true rfl⟩ (bk.recv hK hT rfl rfl) hl.1 rfl (Nat.le_of_ble_eq_true rfl) dX6_boardOfRow_125 ⟨hT, hz⟩ hS (fun _ h => by first | exact h | omega) (fun H locs hPost hz2 hk hS => ?_)
                      obtain ⟨hz, ⟨τ4, hT, hP6⟩⟩ := hPost
                      replace hX := hX.over hk (fun q h1 h2 => by have h3 : q < o + 6 := h2; intro hA1; omega)
                      refine lv_iinc (v := (nI (vx + 1))) (lv' := [(6, .int (nI (vx + 1))), (0, .ref o), (1, .int (nI w)), (2, .int (nI h)), (3, .ref nb), (4, .int (nI (rsB (μ.2.1 15) (μ.1 20)))), (5, .int (nI vy))]) hx hb dX6_boardOfRow_128 hl (k := 6) rfl (inc1 _) (by decide) rfl (fun ls hl => ?_)
                      refine lv_goto (tgt := 100) hx hb dX6_boardOfRow_131 (by decide) ?_
                      exact ih100 (vx + 1) τ4 (by omega) hP6 (by omega) _ _ hX hT hS hz ls (lv_sub hl [1, 2, 3, 4, 5, 6, 0] rfl)
              exact L100 ((w - 0) + 1) 0 τ (Nat.zero_le _) hP4 (Nat.lt_succ_self _) _ _ hX hT hS hz ls (lv_sub hl [1, 2, 3, 4, 5, 6, 0] rfl)
        replace hl := lv_eq 5 hl rfl (v2 := .int (nI (rsB (μ.2.1 15) (μ.1 20)))) (congrArg (fun z => Value.int (nI z)) (show (rsB (μ.2.1 15) vi) = (rsB (μ.2.1 15) (μ.1 20)) from by rw [hve]))
        exact L91 ((h - 0) + 1) 0 τ (Nat.zero_le _) (PD_congr hP (pt_c (fun k hk8 => by rw [hve, show dnI w h 0 0 k = false from decide_eq_false (by omega), Bool.or_false]))) (Nat.lt_succ_self _) _ _ hX hT hS hz ls (lv_sub hl [1, 2, 3, 4, 5, 0] rfl)
      ·
        have hv99 := h99 vi (by omega)
        obtain ⟨⟨hx9, hy9⟩, hun⟩ := hq1 vi (by omega)
        refine lv_aload_n hx hb dX6_boardOfRow_25 rfl (lv_at hl 3 rfl) ?_
        refine lv_aload_n hx hb dX6_boardOfRow_26 rfl (lv_at hl 0 rfl) ?_
        refine kg (C := RX6) (T := TX6) (N := 12) (ci := 4) (k := 8) (v := .ref (o + 5)) S hK rfl inX6 (by decide) q_132 dX6_boardOfRow_27 hX rfl rfl ?_
        refine lv_iload hx hb dX6_boardOfRow_30 (lv_at hl 5 rfl) ?_
        refine kil (f := σ.2.1 8) S hK dX6_boardOfRow_32 5 hX rfl (by decide) rfl (by omega) ?_
        refine w_top (v' := .int (nI (μ.2.1 15 vi))) (congrArg (fun z => Value.int (nI z)) (congrFun hR2 vi)) ?_
        refine lv_bipush (v := nI 10) hx hb dX6_boardOfRow_33 (by decide) ?_
        refine n_idiv hx hb dX6_boardOfRow_35 (by first | omega | exact Nat.lt_of_le_of_lt Nat.and_le_right (shl_lt (by omega))) (by decide) (by decide) ?_
        refine lv_aload_n hx hb dX6_boardOfRow_36 rfl (lv_at hl 0 rfl) ?_
        refine kg (C := RX6) (T := TX6) (N := 12) (ci := 4) (k := 8) (v := .ref (o + 5)) S hK rfl inX6 (by decide) q_132 dX6_boardOfRow_37 hX rfl rfl ?_
        refine lv_iload hx hb dX6_boardOfRow_40 (lv_at hl 5 rfl) ?_
        refine kil (f := σ.2.1 8) S hK dX6_boardOfRow_42 5 hX rfl (by decide) rfl (by omega) ?_
        refine w_top (v' := .int (nI (μ.2.1 15 vi))) (congrArg (fun z => Value.int (nI z)) (congrFun hR2 vi)) ?_
        refine lv_bipush (v := nI 10) hx hb dX6_boardOfRow_43 (by decide) ?_
        refine n_irem hx hb dX6_boardOfRow_45 (by first | omega | exact Nat.lt_of_le_of_lt Nat.and_le_right (shl_lt (by omega))) (by decide) (by decide) ?_
        refine lv_bipush (v := nI 10) hx hb dX6_boardOfRow_46 (by decide) ?_
        refine lv_iload hx hb dX6_boardOfRow_48 (lv_at hl 5 rfl) ?_
        refine n_iadd hx hb dX6_boardOfRow_50 ?_
        have hv9 : 10 + vi = lyC μ w h 0 (5 * (μ.2.1 15 vi % 10) + μ.2.1 15 vi / 10) := by
          unfold lyC
          rw [if_pos (by omega), show (5 * (μ.2.1 15 vi % 10) + μ.2.1 15 vi / 10) / 5 = μ.2.1 15 vi % 10 from by omega, show (5 * (μ.2.1 15 vi % 10) + μ.2.1 15 vi / 10) % 5 = μ.2.1 15 vi / 10 from by omega]
          exact (lyV_s (by rw [show 10 * (μ.2.1 15 vi / 10) + μ.2.1 15 vi % 10 = μ.2.1 15 vi from by omega]; exact fcA_s hq (by omega))).symm
        refine ctVv (rest := []) S hK (c_X0_set l G (nb + 4) nb τ ((μ.2.1 15 vi) / 10) ((μ.2.1 15 vi) % 10) (10 + vi) w h (fun k => (rsB (μ.2.1 15) vi).testBit k) (fun k => (rsB (μ.2.1 15) (vi + 1)).testBit k) (lyC μ w h 0) hP (by omega) hx9 hy9 hUd (rsB_n (fun k hk8 z => by have a := hun k hk8; have b := (hq1 k (by omega)).1; omega)) (fun i hi => by
          show (rsB (μ.2.1 15) vi ||| 1 <<< _).testBit i = _
          rw [Nat.testBit_or, Nat.one_shiftLeft, Nat.testBit_two_pow]
          exact or_r (dec_e ⟨fun z => z.symm, fun z => z.symm⟩)) hv9) cw_X6_262 rfl ⟨Nat.le_of_ble_eq_true rfl, Nat.le_of_ble_eq_true rfl⟩ ⟨Nat.le_of_ble_eq_true rfl, Nat.le_of_ble_eq_true rfl⟩ (bk.recv hK hT rfl rfl) hl.1 rfl (Nat.le_of_ble_eq_true rfl) dX6_boardOfRow_51 ⟨hT, hz⟩ hS (fun _ h => by first | exact h | omega) (fun H locs hPost hz2 hk hS => ?_)
        obtain ⟨hz, ⟨τ3, hT, hP3⟩⟩ := hPost
        replace hX := hX.over hk (fun q h1 h2 => by have h3 : q < o + 6 := h2; intro hA1; omega)
        refine lv_iload hx hb dX6_boardOfRow_54 (lv_at hl 4 rfl) ?_
        refine lv_aload_n hx hb dX6_boardOfRow_56 rfl (lv_at hl 0 rfl) ?_
        refine kg (C := RX6) (T := TX6) (N := 12) (ci := 4) (k := 8) (v := .ref (o + 5)) S hK rfl inX6 (by decide) q_132 dX6_boardOfRow_57 hX rfl rfl ?_
        refine lv_iload hx hb dX6_boardOfRow_60 (lv_at hl 5 rfl) ?_
        refine kil (f := σ.2.1 8) S hK dX6_boardOfRow_62 5 hX rfl (by decide) rfl (by omega) ?_
        refine w_top (v' := .int (nI (μ.2.1 15 vi))) (congrArg (fun z => Value.int (nI z)) (congrFun hR2 vi)) ?_
        refine lv_bipush (v := nI 10) hx hb dX6_boardOfRow_63 (by decide) ?_
        refine n_idiv hx hb dX6_boardOfRow_65 (by first | omega | exact Nat.lt_of_le_of_lt Nat.and_le_right (shl_lt (by omega))) (by decide) (by decide) ?_
        refine lv_aload_n hx hb dX6_boardOfRow_66 rfl (lv_at hl 0 rfl) ?_
        refine kg (C := RX6) (T := TX6) (N := 12) (ci := 4) (k := 8) (v := .ref (o + 5)) S hK rfl inX6 (by decide) q_132 dX6_boardOfRow_67 hX rfl rfl ?_
        refine lv_iload hx hb dX6_boardOfRow_70 (lv_at hl 5 rfl) ?_
        refine kil (f := σ.2.1 8) S hK dX6_boardOfRow_72 5 hX rfl (by decide) rfl (by omega) ?_
        refine w_top (v' := .int (nI (μ.2.1 15 vi))) (congrArg (fun z => Value.int (nI z)) (congrFun hR2 vi)) ?_
        refine lv_bipush (v := nI 10) hx hb dX6_boardOfRow_73 (by decide) ?_
        refine n_irem hx hb dX6_boardOfRow_75 (by first | omega | exact Nat.lt_of_le_of_lt Nat.and_le_right (shl_lt (by omega))) (by decide) (by decide) ?_
        refine crS (rest := [.int (nI (rsB (μ.2.1 15) vi))]) S hK (c_X0_bitOf l G ((μ.2.1 15 vi) / 10) ((μ.2.1 15 vi) % 10) (by omega) (by omega)) cw_X6_150 rfl ⟨Nat.le_of_ble_eq_true rfl, Nat.le_of_ble_eq_true rfl⟩ ⟨Nat.le_of_ble_eq_true rfl, Nat.le_of_ble_eq_true rfl⟩ hl.1 rfl (Nat.le_of_ble_eq_true rfl) dX6_boardOfRow_76 trivial ?_
        refine n_ior hx hb dX6_boardOfRow_79 ?_
        refine lv_istore (lv' := [(4, .int (nI ((rsB (μ.2.1 15) vi) ||| (1 <<< (5 * ((μ.2.1 15 vi) % 10) + ((μ.2.1 15 vi) / 10)))))), (0, .ref o), (1, .int (nI w)), (2, .int (nI h)), (3, .ref nb), (5, .int (nI vi))]) hx hb dX6_boardOfRow_80 hl (by decide) rfl (fun ls hl => ?_)
        refine lv_iinc (v := (nI (vi + 1))) (lv' := [(5, .int (nI (vi + 1))), (4, .int (nI ((rsB (μ.2.1 15) vi) ||| (1 <<< (5 * ((μ.2.1 15 vi) % 10) + ((μ.2.1 15 vi) / 10)))))), (0, .ref o), (1, .int (nI w)), (2, .int (nI h)), (3, .ref nb)]) hx hb dX6_boardOfRow_82 hl (k := 5) rfl (inc1 _) (by decide) rfl (fun ls hl => ?_)
        refine lv_goto (tgt := 16) hx hb dX6_boardOfRow_85 (by decide) ?_
        replace hl := lv_eq 1 hl rfl (v2 := .int (nI (rsB (μ.2.1 15) (vi + 1)))) (congrArg (fun z => Value.int (nI z)) (show ((rsB (μ.2.1 15) vi) ||| (1 <<< (5 * ((μ.2.1 15 vi) % 10) + ((μ.2.1 15 vi) / 10)))) = (rsB (μ.2.1 15) (vi + 1)) from by first | rfl | omega))
        exact ih16 (vi + 1) τ3 (by omega) hP3 (by omega) _ _ hX hT hS hz ls (lv_sub hl [2, 3, 4, 5, 1, 0] rfl)
  replace hl := lv_eq 1 hl rfl (v2 := .int (nI (rsB (μ.2.1 15) 0))) (congrArg (fun z => Value.int (nI z)) (show 0 = (rsB (μ.2.1 15) 0) from by first | rfl | omega))
  exact L16 ((μ.1 20 - 0) + 1) 0 (bd0 w h) (Nat.zero_le _) (PD_new2 (fun k hk8 => Nat.zero_testBit _)) (Nat.lt_succ_self _) _ _ hX hT hS hz ls (lv_sub hl [3, 4, 5, 2, 1, 0] rfl)
