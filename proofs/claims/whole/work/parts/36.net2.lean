
/-! walks: the class's sums over a NET's STATES -/
def stH (F : Nat → Nat) (Wy sl : Nat → Nat → Nat) (n k kn va s a : Nat) : Nat := if okS F Wy sl k s kn va then (a + Wy k s * sfH F Wy sl n (k + 1) (kn ||| slO (sl k) (F k)) (va ||| bO (sl k) s (F k))) % 1000000007 else a
theorem sfH_s (F : Nat → Nat) (Wy sl : Nat → Nat → Nat) (n k kn va : Nat) : sfH F Wy sl (n + 1) k kn va = acS (stH F Wy sl n k kn va) (1 <<< F k) := rfl
def paS (F : Nat → Nat) (Wy sl : Nat → Nat → Nat) (n k kn va : Nat) : Nat → Bool := fun s => okS F Wy sl k s kn va && sfA F Wy sl n (k + 1) (kn ||| slO (sl k) (F k)) (va ||| bO (sl k) s (F k))
theorem sfA_s (F : Nat → Nat) (Wy sl : Nat → Nat → Nat) (n k kn va : Nat) : sfA F Wy sl (n + 1) k kn va = (fnd (paS F Wy sl n k kn va) (1 <<< F k) 0).isSome := rfl
section OK
variable {F : Nat → Nat} {Wy sl : Nat → Nat → Nat} {n k kn va s : Nat}
theorem ok_w (h : Wy k s = 0) : okS F Wy sl k s kn va = false := by unfold okS; rw [decide_eq_false (fun q => q h)]; rfl
theorem ok_c (h : ¬ bO (sl k) s (F k) &&& bZ (sl k) s (F k) = 0) : okS F Wy sl k s kn va = false := by unfold okS; rw [decide_eq_false h, Bool.false_and, Bool.and_false]
theorem ok_m (h : ¬ (bO (sl k) s (F k) ^^^ va) &&& slO (sl k) (F k) &&& kn = 0) : okS F Wy sl k s kn va = false := by unfold okS; rw [decide_eq_false h, Bool.and_false, Bool.and_false]
theorem ok_y (h1 : ¬ Wy k s = 0) (h2 : bO (sl k) s (F k) &&& bZ (sl k) s (F k) = 0) (h3 : (bO (sl k) s (F k) ^^^ va) &&& slO (sl k) (F k) &&& kn = 0) : okS F Wy sl k s kn va = true := by unfold okS; rw [decide_eq_true h1, decide_eq_true h2, decide_eq_true h3]; rfl
theorem ac_n (h : okS F Wy sl k s kn va = false) : acS (stH F Wy sl n k kn va) s = acS (stH F Wy sl n k kn va) (s + 1) := by
  show _ = stH F Wy sl n k kn va s _
  unfold stH
  rw [if_neg (by rw [h]; decide)]
theorem ac_y (h : okS F Wy sl k s kn va = true) : (acS (stH F Wy sl n k kn va) s + Wy k s * sfH F Wy sl n (k + 1) (kn ||| slO (sl k) (F k)) (va ||| bO (sl k) s (F k))) % 1000000007 = acS (stH F Wy sl n k kn va) (s + 1) := by
  show _ = (if okS F Wy sl k s kn va = true then (acS (stH F Wy sl n k kn va) s + Wy k s * sfH F Wy sl n (k + 1) (kn ||| slO (sl k) (F k)) (va ||| bO (sl k) s (F k))) % 1000000007 else acS (stH F Wy sl n k kn va) s)
  rw [if_pos h]
theorem stH_lt {a : Nat} (ha : a < 1000000007) : stH F Wy sl n k kn va s a < 1000000007 := by
  unfold stH
  split
  · exact Nat.mod_lt _ (by decide)
  · exact ha
theorem pa_n (h : okS F Wy sl k s kn va = false) : paS F Wy sl n k kn va s = false := by unfold paS; rw [h]; rfl
theorem pa_y (h : okS F Wy sl k s kn va = true) : paS F Wy sl n k kn va s = sfA F Wy sl n (k + 1) (kn ||| slO (sl k) (F k)) (va ||| bO (sl k) s (F k)) := by unfold paS; rw [h]; rfl
end OK
theorem sl_lt {ν : Sx} {F : Nat → Nat} {P : Nat} (hl : ∀ j, j < 40 → ν.2.1 3 j ≤ 12) (h8 : P ≤ 8) (hF : ∀ k, k < P → F k ≤ 5) (hfc : fcN F (zK ν) P ≤ 10) {k f : Nat} (hk : k < P) (hf : f < F k) : slK ν F k f < 22 := by
  have h1 := fc_lt (Z := zK ν) hk hf
  have h2 := hl (5 * k + f) (by have := hF k hk; omega)
  unfold slK
  split
  · have h3 : fcN F (zK ν) k + fc1 (zK ν) k f + 1 ≤ fcN F (zK ν) P ∨ True := Or.inr trivial
    have h4 : fcN F (zK ν) k + fc1 (zK ν) k (f + 1) ≤ fcN F (zK ν) P := by
      have a := fc1_mono (Z := zK ν) (k := k) (m := F k) (F k - (f + 1)) (f + 1) (by omega)
      have b := fcN_mono (F := F) (Z := zK ν) (P := P) (P - (k + 1)) (k + 1) (by omega)
      have e : fcN F (zK ν) (k + 1) = fcN F (zK ν) k + fc1 (zK ν) k (F k) := rfl
      omega
    rename_i hz
    have h5 := fc1_yes (Z := zK ν) (k := k) (f := f) (decide_eq_true hz)
    omega
  · omega

set_option maxHeartbeats 1000000 in
set_option maxRecDepth 100000 in
theorem c_X4_sumFrom_h (l : Launch) (G : Gt) : ∀ (n : Nat) (nn : Nat) (ν : Sx) (F : Nat → Nat) (Wy : Nat → Nat → Nat) (sl : Nat → Nat → Nat) (k : Nat) (kn : Nat) (va : Nat), (ν.1 1 ≤ 8) → (∀ k, k < ν.1 1 → ∀ f, f < F k → ν.2.1 4 (5 * k + f) = sl k f ∧ sl k f < 22) → (k + n = ν.1 1) → (kn < 2 ^ 22) → (va < 2 ^ 22) → Cr l G yX4_sumFrom cX4_sumFrom 15 ((some .long)) (n + 2) [.ref nn, .int (nI k), .int (nI kn), .int (nI va), .int (nI 0)] (fun H => bk G nn (ntL G nn ν) H ∧ NB G nn ν F Wy H) (some (.long (lN (sfH F Wy sl n k kn va)))) := by
  intro n
  induction n with
  | zero =>
    intro nn ν F Wy sl k kn va hP8 hsl hk8 hkn hva
    refine cr_entry [(0, .ref nn), (1, .int (nI k)), (2, .int (nI kn)), (3, .int (nI va)), (4, .int (nI 0))] (by decide) (Nat.le_of_ble_eq_true rfl) rfl ?_
    intro zp ze zs zm za zb zt zc Q S hK hPre hE ls hl
    have hx := S.1
    have hb := S.2.1
    obtain ⟨hN, hNB⟩ := hPre
    refine lv_iload_n hx hb dX4_sumFrom_0 rfl (lv_at hl 1 rfl) ?_
    refine lv_aload_n hx hb dX4_sumFrom_1 rfl (lv_at hl 0 rfl) ?_
    refine kg (C := RX4) (T := TX4) (N := 5) (ci := 3) (k := 1) (v := .int (nI (ν.1 1))) S hK rfl inX4 (by decide) q_508 dX4_sumFrom_2 hN rfl rfl ?_
    refine n_icmp_ge (tgt := 14) hx hb dX4_sumFrom_5 (by decide) (by first | omega | exact Nat.lt_of_le_of_lt Nat.and_le_right (by omega)) (by first | omega | exact Nat.lt_of_le_of_lt Nat.and_le_right (by omega)) (fun c_5 => ?_) (fun c_5 => ?_)
    ·
      refine lv_lconst (v := lN 1) hx hb dX4_sumFrom_14 (by decide) ?_
      refine w_top (v' := .long (lN (sfH F Wy sl 0 k kn va))) (congrArg (fun z => Value.long (lN z)) (show 1 = (sfH F Wy sl 0 k kn va) from rfl)) ?_
      exact hE _ _ (kr_l dX4_sumFrom_15)
    ·
      omega
  | succ n ih =>
    intro nn ν F Wy sl k kn va hP8 hsl hk8 hkn hva
    refine cr_entry [(0, .ref nn), (1, .int (nI k)), (2, .int (nI kn)), (3, .int (nI va)), (4, .int (nI 0))] (by decide) (Nat.le_of_ble_eq_true rfl) rfl ?_
    intro zp ze zs zm za zb zt zc Q S hK hPre hE ls hl
    have hx := S.1
    have hb := S.2.1
    obtain ⟨hN, hNB⟩ := hPre
    refine lv_iload_n hx hb dX4_sumFrom_0 rfl (lv_at hl 1 rfl) ?_
    refine lv_aload_n hx hb dX4_sumFrom_1 rfl (lv_at hl 0 rfl) ?_
    refine kg (C := RX4) (T := TX4) (N := 5) (ci := 3) (k := 1) (v := .int (nI (ν.1 1))) S hK rfl inX4 (by decide) q_508 dX4_sumFrom_2 hN rfl rfl ?_
    refine n_icmp_ge (tgt := 14) hx hb dX4_sumFrom_5 (by decide) (by first | omega | exact Nat.lt_of_le_of_lt Nat.and_le_right (by omega)) (by first | omega | exact Nat.lt_of_le_of_lt Nat.and_le_right (by omega)) (fun c_5 => ?_) (fun c_5 => ?_)
    ·
      omega
    ·
      refine lv_iload_n hx hb dX4_sumFrom_8 rfl (lv_at hl 1 rfl) ?_
      refine lv_bipush (v := nI 8) hx hb dX4_sumFrom_9 (by decide) ?_
      refine n_icmp_lt (tgt := 16) hx hb dX4_sumFrom_11 (by decide) (by first | omega | exact Nat.lt_of_le_of_lt Nat.and_le_right (by omega)) (by decide) (fun c_11 => ?_) (fun c_11 => ?_)
      ·
        obtain ⟨a, β, ha1, ha2, hB, hb4, hb5, hb6⟩ := hNB k (by omega)
        have hM22 := slO_lt (g := sl k) (m := 22) (F k) (fun i hi => (hsl k (by omega) i hi).2)
        have hsh := shl_le hb5
        have hbe : 1 <<< β.1 4 = 1 <<< F k := by rw [hb4]
        refine lv_aload_n hx hb dX4_sumFrom_16 rfl (lv_at hl 0 rfl) ?_
        refine kg (C := RX4) (T := TX4) (N := 5) (ci := 3) (k := 0) (v := .ref (nn + 1)) S hK rfl inX4 (by decide) q_507 dX4_sumFrom_17 hN rfl rfl ?_
        refine lv_iload_n hx hb dX4_sumFrom_20 rfl (lv_at hl 1 rfl) ?_
        refine kql (f := ν.2.2 0) S hK dX4_sumFrom_21 1 2 hN rfl rfl (by decide) rfl (by first | omega | exact Nat.lt_of_le_of_lt Nat.and_le_right (by omega)) ?_
        rw [show ν.2.2 0 k = some a from ha1]
        dsimp only [va_rf]
        refine lv_astore (lv' := [(5, .ref a), (0, .ref nn), (1, .int (nI k)), (2, .int (nI kn)), (3, .int (nI va)), (4, .int (nI 0))]) hx hb dX4_sumFrom_22 hl (by decide) rfl (fun ls hl => ?_)
        refine lv_aload hx hb dX4_sumFrom_24 (lv_at hl 0 rfl) ?_
        refine lv_ifnonnull (tgt := 31) hx hb dX4_sumFrom_26 (by decide) ?_
        refine lv_aload_n hx hb dX4_sumFrom_31 rfl (lv_at hl 1 rfl) ?_
        refine lv_iload_n hx hb dX4_sumFrom_32 rfl (lv_at hl 2 rfl) ?_
        refine crV (rest := []) S hK (c_X4_slotsOf l G nn ν F Wy sl k (by first | assumption | omega | decide) (by first | assumption | omega | decide) (by omega)) cw_X4_60 rfl ⟨by simp only [rL]; omega, by simp only [rL]; omega⟩ ⟨Nat.le_of_ble_eq_true rfl, Nat.le_of_ble_eq_true rfl⟩ (bk.recv hK hN rfl rfl) hl.1 rfl (Nat.le_of_ble_eq_true rfl) dX4_sumFrom_33 ⟨hN, hNB⟩ ?_
        refine lv_istore (lv' := [(6, .int (nI (slO (sl k) (F k)))), (5, .ref a), (0, .ref nn), (1, .int (nI k)), (2, .int (nI kn)), (3, .int (nI va)), (4, .int (nI 0))]) hx hb dX4_sumFrom_36 hl (by decide) rfl (fun ls hl => ?_)
        refine lv_lconst (v := lN 0) hx hb dX4_sumFrom_38 (by decide) ?_
        refine lv_lstore (lv' := [(7, .long (lN 0)), (6, .int (nI (slO (sl k) (F k)))), (5, .ref a), (0, .ref nn), (1, .int (nI k)), (2, .int (nI kn)), (3, .int (nI va)), (4, .int (nI 0))]) hx hb dX4_sumFrom_39 hl (by decide) rfl (fun ls hl => ?_)
        refine lv_iconst (v := nI 0) hx hb dX4_sumFrom_41 (by decide) ?_
        refine lv_istore (lv' := [(9, .int (nI 0)), (7, .long (lN 0)), (6, .int (nI (slO (sl k) (F k)))), (5, .ref a), (0, .ref nn), (1, .int (nI k)), (2, .int (nI kn)), (3, .int (nI va)), (4, .int (nI 0))]) hx hb dX4_sumFrom_42 hl (by decide) rfl (fun ls hl => ?_)
        have L44 : ∀ (fu : Nat), ∀ (vs : Nat), (vs ≤ 1 <<< F k) → 1 <<< F k - vs < fu → ∀ ls : Array Slot, lv_has ls 15 [(0, .ref nn), (1, .int (nI k)), (2, .int (nI kn)), (3, .int (nI va)), (4, .int (nI 0)), (5, .ref a), (6, .int (nI (slO (sl k) (F k)))), (7, .long (lN (acS (stH F Wy sl n k kn va) vs))), (9, .int (nI vs))] → W zp l ze (rL ((n + 1) + 2) 0 0) zs zm za zb zt zc zs.heap [] 0 0 Q (F0 zm 44 ls []) := by
          intro fu
          induction fu with
          | zero =>
            intro vs hvs hmu ls hl
            exact absurd hmu (Nat.not_lt_zero _)
          | succ fu ih44 =>
            intro vs hvs hmu ls hl
            refine lv_iload hx hb dX4_sumFrom_44 (lv_at hl 8 rfl) ?_
            refine lv_aload hx hb dX4_sumFrom_46 (lv_at hl 5 rfl) ?_
            refine crV (rest := [.int (nI vs)]) S hK (c_X0_states l G a β (by omega)) cw_X4_63 rfl ⟨by simp only [rL]; omega, by simp only [rL]; omega⟩ ⟨Nat.le_of_ble_eq_true rfl, Nat.le_of_ble_eq_true rfl⟩ (bk.recv hK hB rfl rfl) hl.1 rfl (Nat.le_of_ble_eq_true rfl) dX4_sumFrom_48 hB ?_
            refine n_icmp_ge (tgt := 159) hx hb dX4_sumFrom_51 (by decide) (by first | omega | exact Nat.lt_of_le_of_lt Nat.and_le_right (by omega)) (by first | omega | exact Nat.lt_of_le_of_lt Nat.and_le_right (by omega)) (fun c_51 => ?_) (fun c_51 => ?_)
            ·
              refine lv_lload hx hb dX4_sumFrom_159 (lv_at hl 7 rfl) ?_
              refine w_top (v' := .long (lN (sfH F Wy sl (n + 1) k kn va))) (congrArg (fun z => Value.long (lN z)) (show (acS (stH F Wy sl n k kn va) vs) = (sfH F Wy sl (n + 1) k kn va) from by rw [show vs = 1 <<< F k from by omega]; rfl)) ?_
              exact hE _ _ (kr_l dX4_sumFrom_161)
            ·
              obtain ⟨hw1, hw2⟩ := hb6 vs (by omega)
              refine lv_aload hx hb dX4_sumFrom_54 (lv_at hl 5 rfl) ?_
              refine kg (C := RX0) (T := TX0) (N := 9) (ci := 0) (k := 6) (v := .ref (a + 3)) S hK rfl inX0 (by decide) q_209 dX4_sumFrom_56 hB rfl rfl ?_
              refine lv_iload hx hb dX4_sumFrom_59 (lv_at hl 8 rfl) ?_
              refine kil (f := β.2.1 6) S hK dX4_sumFrom_61 3 hB rfl (by decide) rfl (by first | omega | exact Nat.lt_of_le_of_lt Nat.and_le_right (by omega)) ?_
              refine w_top (v' := .int (nI (Wy k vs))) (congrArg (fun z => Value.int (nI z)) hw1) ?_
              refine n_i2l hx hb dX4_sumFrom_62 (by first | omega | exact Nat.lt_of_le_of_lt Nat.and_le_right (by omega)) ?_
              refine lv_lstore (lv' := [(10, .long (lN (Wy k vs))), (0, .ref nn), (1, .int (nI k)), (2, .int (nI kn)), (3, .int (nI va)), (4, .int (nI 0)), (5, .ref a), (6, .int (nI (slO (sl k) (F k)))), (7, .long (lN (acS (stH F Wy sl n k kn va) vs))), (9, .int (nI vs))]) hx hb dX4_sumFrom_63 hl (by decide) rfl (fun ls hl => ?_)
              refine lv_lload hx hb dX4_sumFrom_65 (lv_at hl 0 rfl) ?_
              refine lv_lconst (v := lN 0) hx hb dX4_sumFrom_67 (by decide) ?_
              refine W.lcmp hx hb dX4_sumFrom_68 ?_
              refine nl_if_ne (tgt := 76) hx hb dX4_sumFrom_69 (by decide) (by first | omega | exact Nat.lt_of_le_of_lt Nat.and_le_right (by omega)) (by decide) (fun c_69 => ?_) (fun c_69 => ?_)
              ·
                refine lv_aload_n hx hb dX4_sumFrom_76 rfl (lv_at hl 1 rfl) ?_
                refine lv_iload_n hx hb dX4_sumFrom_77 rfl (lv_at hl 2 rfl) ?_
                refine lv_iload hx hb dX4_sumFrom_78 (lv_at hl 9 rfl) ?_
                by_cases hcl : bO (sl k) vs (F k) &&& bZ (sl k) vs (F k) = 0
                ·
                  have hO22 := bO_lt (g := sl k) (m := 22) (st := vs) (F k) (fun i hi => (hsl k (by omega) i hi).2)
                  refine crV (rest := []) S hK (c_X4_bitsIn_y l G nn ν F Wy sl k vs (by first | assumption | omega | decide) (by first | assumption | omega | decide) (by omega) (by omega) hcl) cw_X4_69 rfl ⟨by simp only [rL]; omega, by simp only [rL]; omega⟩ ⟨Nat.le_of_ble_eq_true rfl, Nat.le_of_ble_eq_true rfl⟩ (bk.recv hK hN rfl rfl) hl.1 rfl (Nat.le_of_ble_eq_true rfl) dX4_sumFrom_80 ⟨hN, hNB⟩ ?_
                  refine lv_istore (lv' := [(12, .int (nI (bO (sl k) vs (F k)))), (10, .long (lN (Wy k vs))), (0, .ref nn), (1, .int (nI k)), (2, .int (nI kn)), (3, .int (nI va)), (4, .int (nI 0)), (5, .ref a), (6, .int (nI (slO (sl k) (F k)))), (7, .long (lN (acS (stH F Wy sl n k kn va) vs))), (9, .int (nI vs))]) hx hb dX4_sumFrom_83 hl (by decide) rfl (fun ls hl => ?_)
                  refine lv_iload hx hb dX4_sumFrom_85 (lv_at hl 0 rfl) ?_
                  refine lv_iconst (v := (-1)) hx hb dX4_sumFrom_87 (by decide) ?_
                  refine lv_icmp_eq (tgt := 153) hx hb dX4_sumFrom_88 (by decide) (fun c_88 => ?_) (fun c_88 => ?_)
                  ·
                    exact absurd c_88.symm (neg1_ne (by omega))
                  ·
                    refine lv_iload hx hb dX4_sumFrom_91 (lv_at hl 0 rfl) ?_
                    refine lv_iload_n hx hb dX4_sumFrom_93 rfl (lv_at hl 5 rfl) ?_
                    refine n_ixor hx hb dX4_sumFrom_94 ?_
                    refine lv_iload hx hb dX4_sumFrom_95 (lv_at hl 8 rfl) ?_
                    refine n_iand hx hb dX4_sumFrom_97 ?_
                    refine lv_iload_n hx hb dX4_sumFrom_98 rfl (lv_at hl 4 rfl) ?_
                    refine n_iand hx hb dX4_sumFrom_99 ?_
                    refine n_if_eq (tgt := 106) hx hb dX4_sumFrom_100 (by decide) (by first | omega | exact Nat.lt_of_le_of_lt Nat.and_le_right (by omega)) (fun c_100 => ?_) (fun c_100 => ?_)
                    ·
                      refine lv_aload_n hx hb dX4_sumFrom_106 rfl (lv_at hl 2 rfl) ?_
                      refine lv_iload_n hx hb dX4_sumFrom_107 rfl (lv_at hl 3 rfl) ?_
                      refine lv_iconst (v := nI 1) hx hb dX4_sumFrom_108 (by decide) ?_
                      refine n_iadd hx hb dX4_sumFrom_109 ?_
                      refine lv_iload_n hx hb dX4_sumFrom_110 rfl (lv_at hl 4 rfl) ?_
                      refine lv_iload hx hb dX4_sumFrom_111 (lv_at hl 8 rfl) ?_
                      refine n_ior hx hb dX4_sumFrom_113 ?_
                      refine lv_iload_n hx hb dX4_sumFrom_114 rfl (lv_at hl 5 rfl) ?_
                      refine lv_iload hx hb dX4_sumFrom_115 (lv_at hl 0 rfl) ?_
                      refine n_ior hx hb dX4_sumFrom_117 ?_
                      refine lv_iload hx hb dX4_sumFrom_118 (lv_at hl 6 rfl) ?_
                      have hok : okS F Wy sl k vs kn va = true := ok_y c_69 hcl c_100
                      refine crS (rest := []) S hK (ih nn ν F Wy sl (k + 1) (kn ||| (slO (sl k) (F k))) (va ||| (bO (sl k) vs (F k))) hP8 hsl (by omega) (Nat.or_lt_two_pow hkn hM22) (Nat.or_lt_two_pow hva hO22)) cw_X4_56 rfl ⟨by simp only [rL]; omega, by simp only [rL]; omega⟩ ⟨Nat.le_of_ble_eq_true rfl, Nat.le_of_ble_eq_true rfl⟩ hl.1 rfl (Nat.le_of_ble_eq_true rfl) dX4_sumFrom_120 ⟨hN, hNB⟩ ?_
                      refine lv_lstore (lv' := [(13, .long (lN (sfH F Wy sl n (k + 1) (kn ||| (slO (sl k) (F k))) (va ||| (bO (sl k) vs (F k)))))), (12, .int (nI (bO (sl k) vs (F k)))), (10, .long (lN (Wy k vs))), (0, .ref nn), (1, .int (nI k)), (2, .int (nI kn)), (3, .int (nI va)), (4, .int (nI 0)), (5, .ref a), (6, .int (nI (slO (sl k) (F k)))), (7, .long (lN (acS (stH F Wy sl n k kn va) vs))), (9, .int (nI vs))]) hx hb dX4_sumFrom_123 hl (by decide) rfl (fun ls hl => ?_)
                      refine lv_iload hx hb dX4_sumFrom_125 (lv_at hl 7 rfl) ?_
                      refine n_if_eq (tgt := 139) hx hb dX4_sumFrom_127 (by decide) (by decide) (fun c_127 => ?_) (fun c_127 => ?_)
                      ·
                        refine lv_lload hx hb dX4_sumFrom_139 (lv_at hl 10 rfl) ?_
                        refine lv_lload hx hb dX4_sumFrom_141 (lv_at hl 2 rfl) ?_
                        have hlt1 : acS (stH F Wy sl n k kn va) vs < 1000000007 := acS_lt (fun s x hx => stH_lt hx) vs
                        have hlt2 := mul_1024 hw2 (sfH_lt F Wy sl n (k + 1) (kn ||| slO (sl k) (F k)) (va ||| bO (sl k) vs (F k)))
                        refine lv_lload hx hb dX4_sumFrom_143 (lv_at hl 0 rfl) ?_
                        refine n_lmul hx hb dX4_sumFrom_145 ?_
                        refine n_ladd hx hb dX4_sumFrom_146 ?_
                        refine lv_ldc2 (v := lN 1000000007) hx hb S.2.2.2.1 (S.2.2.2.2 _ q_610) dX4_sumFrom_147 ?_
                        refine n_lrem hx hb dX4_sumFrom_150 (by first | omega | exact Nat.lt_of_le_of_lt Nat.and_le_right (by omega)) (by decide) (by decide) ?_
                        refine lv_lstore (lv' := [(7, .long (lN (((acS (stH F Wy sl n k kn va) vs) + ((Wy k vs) * (sfH F Wy sl n (k + 1) (kn ||| (slO (sl k) (F k))) (va ||| (bO (sl k) vs (F k)))))) % 1000000007))), (13, .long (lN (sfH F Wy sl n (k + 1) (kn ||| (slO (sl k) (F k))) (va ||| (bO (sl k) vs (F k)))))), (12, .int (nI (bO (sl k) vs (F k)))), (10, .long (lN (Wy k vs))), (0, .ref nn), (1, .int (nI k)), (2, .int (nI kn)), (3, .int (nI va)), (4, .int (nI 0)), (5, .ref a), (6, .int (nI (slO (sl k) (F k)))), (9, .int (nI vs))]) hx hb dX4_sumFrom_151 hl (by decide) rfl (fun ls hl => ?_)
                        have e2 := ac_y (n := n) hok
                        refine lv_iinc (v := (nI (vs + 1))) (lv' := [(9, .int (nI (vs + 1))), (7, .long (lN (((acS (stH F Wy sl n k kn va) vs) + ((Wy k vs) * (sfH F Wy sl n (k + 1) (kn ||| (slO (sl k) (F k))) (va ||| (bO (sl k) vs (F k)))))) % 1000000007))), (13, .long (lN (sfH F Wy sl n (k + 1) (kn ||| (slO (sl k) (F k))) (va ||| (bO (sl k) vs (F k)))))), (12, .int (nI (bO (sl k) vs (F k)))), (10, .long (lN (Wy k vs))), (0, .ref nn), (1, .int (nI k)), (2, .int (nI kn)), (3, .int (nI va)), (4, .int (nI 0)), (5, .ref a), (6, .int (nI (slO (sl k) (F k))))]) hx hb dX4_sumFrom_153 hl (k := 11) rfl (inc1 _) (by decide) rfl (fun ls hl => ?_)
                        refine lv_goto (tgt := 44) hx hb dX4_sumFrom_156 (by decide) ?_
                        replace hl := lv_eq 1 hl rfl (v2 := .long (lN (acS (stH F Wy sl n k kn va) (vs + 1)))) (congrArg (fun z => Value.long (lN z)) (show (((acS (stH F Wy sl n k kn va) vs) + ((Wy k vs) * (sfH F Wy sl n (k + 1) (kn ||| (slO (sl k) (F k))) (va ||| (bO (sl k) vs (F k)))))) % 1000000007) = (acS (stH F Wy sl n k kn va) (vs + 1)) from e2))
                        exact ih44 (vs + 1) (by omega) (by omega) ls (lv_sub hl [5, 6, 7, 8, 9, 10, 11, 1, 0] rfl)
                      ·
                        exact absurd c_127 (by decide)
                    ·
                      have hok : okS F Wy sl k vs kn va = false := ok_m c_100
                      have e2 : acS (stH F Wy sl n k kn va) vs = acS (stH F Wy sl n k kn va) (vs + 1) := ac_n hok
                      refine lv_goto (tgt := 153) hx hb dX4_sumFrom_103 (by decide) ?_
                      refine lv_iinc (v := (nI (vs + 1))) (lv' := [(9, .int (nI (vs + 1))), (12, .int (nI (bO (sl k) vs (F k)))), (10, .long (lN (Wy k vs))), (0, .ref nn), (1, .int (nI k)), (2, .int (nI kn)), (3, .int (nI va)), (4, .int (nI 0)), (5, .ref a), (6, .int (nI (slO (sl k) (F k)))), (7, .long (lN (acS (stH F Wy sl n k kn va) vs)))]) hx hb dX4_sumFrom_153 hl (k := 10) rfl (inc1 _) (by decide) rfl (fun ls hl => ?_)
                      refine lv_goto (tgt := 44) hx hb dX4_sumFrom_156 (by decide) ?_
                      replace hl := lv_eq 10 hl rfl (v2 := .long (lN (acS (stH F Wy sl n k kn va) (vs + 1)))) (congrArg (fun z => Value.long (lN z)) (show (acS (stH F Wy sl n k kn va) vs) = (acS (stH F Wy sl n k kn va) (vs + 1)) from e2))
                      exact ih44 (vs + 1) (by omega) (by omega) ls (lv_sub hl [3, 4, 5, 6, 7, 8, 9, 10, 0] rfl)
                ·
                  have hok : okS F Wy sl k vs kn va = false := ok_c hcl
                  have e2 : acS (stH F Wy sl n k kn va) vs = acS (stH F Wy sl n k kn va) (vs + 1) := ac_n hok
                  refine crV (rest := []) S hK (c_X4_bitsIn_n l G nn ν F Wy sl k vs (by first | assumption | omega | decide) (by first | assumption | omega | decide) (by omega) (by omega) hcl) cw_X4_69 rfl ⟨by simp only [rL]; omega, by simp only [rL]; omega⟩ ⟨Nat.le_of_ble_eq_true rfl, Nat.le_of_ble_eq_true rfl⟩ (bk.recv hK hN rfl rfl) hl.1 rfl (Nat.le_of_ble_eq_true rfl) dX4_sumFrom_80 ⟨hN, hNB⟩ ?_
                  refine lv_istore (lv' := [(12, .int (-1)), (10, .long (lN (Wy k vs))), (0, .ref nn), (1, .int (nI k)), (2, .int (nI kn)), (3, .int (nI va)), (4, .int (nI 0)), (5, .ref a), (6, .int (nI (slO (sl k) (F k)))), (7, .long (lN (acS (stH F Wy sl n k kn va) vs))), (9, .int (nI vs))]) hx hb dX4_sumFrom_83 hl (by decide) rfl (fun ls hl => ?_)
                  refine lv_iload hx hb dX4_sumFrom_85 (lv_at hl 0 rfl) ?_
                  refine lv_iconst (v := (-1)) hx hb dX4_sumFrom_87 (by decide) ?_
                  refine lv_icmp_eq (tgt := 153) hx hb dX4_sumFrom_88 (by decide) (fun c_88 => ?_) (fun c_88 => ?_)
                  ·
                    refine lv_iinc (v := (nI (vs + 1))) (lv' := [(9, .int (nI (vs + 1))), (12, .int (-1)), (10, .long (lN (Wy k vs))), (0, .ref nn), (1, .int (nI k)), (2, .int (nI kn)), (3, .int (nI va)), (4, .int (nI 0)), (5, .ref a), (6, .int (nI (slO (sl k) (F k)))), (7, .long (lN (acS (stH F Wy sl n k kn va) vs)))]) hx hb dX4_sumFrom_153 hl (k := 10) rfl (inc1 _) (by decide) rfl (fun ls hl => ?_)
                    refine lv_goto (tgt := 44) hx hb dX4_sumFrom_156 (by decide) ?_
                    replace hl := lv_eq 10 hl rfl (v2 := .long (lN (acS (stH F Wy sl n k kn va) (vs + 1)))) (congrArg (fun z => Value.long (lN z)) (show (acS (stH F Wy sl n k kn va) vs) = (acS (stH F Wy sl n k kn va) (vs + 1)) from e2))
                    exact ih44 (vs + 1) (by omega) (by omega) ls (lv_sub hl [3, 4, 5, 6, 7, 8, 9, 10, 0] rfl)
                  ·
                    exact absurd c_88 (by decide)
              ·
                have hok : okS F Wy sl k vs kn va = false := ok_w c_69
                have e2 : acS (stH F Wy sl n k kn va) vs = acS (stH F Wy sl n k kn va) (vs + 1) := ac_n hok
                refine lv_iconst (v := (-1)) hx hb dX4_sumFrom_72 (by decide) ?_
                refine lv_goto (tgt := 83) hx hb dX4_sumFrom_73 (by decide) ?_
                refine lv_istore (lv' := [(12, .int (-1)), (10, .long (lN (Wy k vs))), (0, .ref nn), (1, .int (nI k)), (2, .int (nI kn)), (3, .int (nI va)), (4, .int (nI 0)), (5, .ref a), (6, .int (nI (slO (sl k) (F k)))), (7, .long (lN (acS (stH F Wy sl n k kn va) vs))), (9, .int (nI vs))]) hx hb dX4_sumFrom_83 hl (by decide) rfl (fun ls hl => ?_)
                refine lv_iload hx hb dX4_sumFrom_85 (lv_at hl 0 rfl) ?_
                refine lv_iconst (v := (-1)) hx hb dX4_sumFrom_87 (by decide) ?_
                refine lv_icmp_eq (tgt := 153) hx hb dX4_sumFrom_88 (by decide) (fun c_88 => ?_) (fun c_88 => ?_)
                ·
                  refine lv_iinc (v := (nI (vs + 1))) (lv' := [(9, .int (nI (vs + 1))), (12, .int (-1)), (10, .long (lN (Wy k vs))), (0, .ref nn), (1, .int (nI k)), (2, .int (nI kn)), (3, .int (nI va)), (4, .int (nI 0)), (5, .ref a), (6, .int (nI (slO (sl k) (F k)))), (7, .long (lN (acS (stH F Wy sl n k kn va) vs)))]) hx hb dX4_sumFrom_153 hl (k := 10) rfl (inc1 _) (by decide) rfl (fun ls hl => ?_)
                  refine lv_goto (tgt := 44) hx hb dX4_sumFrom_156 (by decide) ?_
                  replace hl := lv_eq 10 hl rfl (v2 := .long (lN (acS (stH F Wy sl n k kn va) (vs + 1)))) (congrArg (fun z => Value.long (lN z)) (show (acS (stH F Wy sl n k kn va) vs) = (acS (stH F Wy sl n k kn va) (vs + 1)) from e2))
                  exact ih44 (vs + 1) (by omega) (by omega) ls (lv_sub hl [3, 4, 5, 6, 7, 8, 9, 10, 0] rfl)
                ·
                  exact absurd c_88 (by decide)
        replace hl := lv_eq 1 hl rfl (v2 := .long (lN (acS (stH F Wy sl n k kn va) 0))) (congrArg (fun z => Value.long (lN z)) (show 0 = (acS (stH F Wy sl n k kn va) 0) from rfl))
        exact L44 ((1 <<< F k - 0) + 1) 0 (Nat.zero_le _) (Nat.lt_succ_self _) ls (lv_sub hl [4, 5, 6, 7, 8, 3, 2, 1, 0] rfl)
      ·
        omega

set_option maxHeartbeats 1000000 in
set_option maxRecDepth 100000 in
theorem c_X4_sumFrom_a (l : Launch) (G : Gt) : ∀ (n : Nat) (nn : Nat) (ν : Sx) (F : Nat → Nat) (Wy : Nat → Nat → Nat) (sl : Nat → Nat → Nat) (k : Nat) (kn : Nat) (va : Nat), (ν.1 1 ≤ 8) → (∀ k, k < ν.1 1 → ∀ f, f < F k → ν.2.1 4 (5 * k + f) = sl k f ∧ sl k f < 22) → (k + n = ν.1 1) → (kn < 2 ^ 22) → (va < 2 ^ 22) → Cr l G yX4_sumFrom cX4_sumFrom 15 ((some .long)) (n + 2) [.ref nn, .int (nI k), .int (nI kn), .int (nI va), .int (nI 1)] (fun H => bk G nn (ntL G nn ν) H ∧ NB G nn ν F Wy H) (some (.long (lN (bN (sfA F Wy sl n k kn va))))) := by
  intro n
  induction n with
  | zero =>
    intro nn ν F Wy sl k kn va hP8 hsl hk8 hkn hva
    refine cr_entry [(0, .ref nn), (1, .int (nI k)), (2, .int (nI kn)), (3, .int (nI va)), (4, .int (nI 1))] (by decide) (Nat.le_of_ble_eq_true rfl) rfl ?_
    intro zp ze zs zm za zb zt zc Q S hK hPre hE ls hl
    have hx := S.1
    have hb := S.2.1
    obtain ⟨hN, hNB⟩ := hPre
    refine lv_iload_n hx hb dX4_sumFrom_0 rfl (lv_at hl 1 rfl) ?_
    refine lv_aload_n hx hb dX4_sumFrom_1 rfl (lv_at hl 0 rfl) ?_
    refine kg (C := RX4) (T := TX4) (N := 5) (ci := 3) (k := 1) (v := .int (nI (ν.1 1))) S hK rfl inX4 (by decide) q_508 dX4_sumFrom_2 hN rfl rfl ?_
    refine n_icmp_ge (tgt := 14) hx hb dX4_sumFrom_5 (by decide) (by first | omega | exact Nat.lt_of_le_of_lt Nat.and_le_right (by omega)) (by first | omega | exact Nat.lt_of_le_of_lt Nat.and_le_right (by omega)) (fun c_5 => ?_) (fun c_5 => ?_)
    ·
      refine lv_lconst (v := lN 1) hx hb dX4_sumFrom_14 (by decide) ?_
      refine w_top (v' := .long (lN (bN (sfA F Wy sl 0 k kn va)))) (congrArg (fun z => Value.long (lN z)) (show 1 = (bN (sfA F Wy sl 0 k kn va)) from rfl)) ?_
      exact hE _ _ (kr_l dX4_sumFrom_15)
    ·
      omega
  | succ n ih =>
    intro nn ν F Wy sl k kn va hP8 hsl hk8 hkn hva
    refine cr_entry [(0, .ref nn), (1, .int (nI k)), (2, .int (nI kn)), (3, .int (nI va)), (4, .int (nI 1))] (by decide) (Nat.le_of_ble_eq_true rfl) rfl ?_
    intro zp ze zs zm za zb zt zc Q S hK hPre hE ls hl
    have hx := S.1
    have hb := S.2.1
    obtain ⟨hN, hNB⟩ := hPre
    refine lv_iload_n hx hb dX4_sumFrom_0 rfl (lv_at hl 1 rfl) ?_
    refine lv_aload_n hx hb dX4_sumFrom_1 rfl (lv_at hl 0 rfl) ?_
    refine kg (C := RX4) (T := TX4) (N := 5) (ci := 3) (k := 1) (v := .int (nI (ν.1 1))) S hK rfl inX4 (by decide) q_508 dX4_sumFrom_2 hN rfl rfl ?_
    refine n_icmp_ge (tgt := 14) hx hb dX4_sumFrom_5 (by decide) (by first | omega | exact Nat.lt_of_le_of_lt Nat.and_le_right (by omega)) (by first | omega | exact Nat.lt_of_le_of_lt Nat.and_le_right (by omega)) (fun c_5 => ?_) (fun c_5 => ?_)
    ·
      omega
    ·
      refine lv_iload_n hx hb dX4_sumFrom_8 rfl (lv_at hl 1 rfl) ?_
      refine lv_bipush (v := nI 8) hx hb dX4_sumFrom_9 (by decide) ?_
      refine n_icmp_lt (tgt := 16) hx hb dX4_sumFrom_11 (by decide) (by first | omega | exact Nat.lt_of_le_of_lt Nat.and_le_right (by omega)) (by decide) (fun c_11 => ?_) (fun c_11 => ?_)
      ·
        obtain ⟨a, β, ha1, ha2, hB, hb4, hb5, hb6⟩ := hNB k (by omega)
        have hM22 := slO_lt (g := sl k) (m := 22) (F k) (fun i hi => (hsl k (by omega) i hi).2)
        have hsh := shl_le hb5
        have hbe : 1 <<< β.1 4 = 1 <<< F k := by rw [hb4]
        refine lv_aload_n hx hb dX4_sumFrom_16 rfl (lv_at hl 0 rfl) ?_
        refine kg (C := RX4) (T := TX4) (N := 5) (ci := 3) (k := 0) (v := .ref (nn + 1)) S hK rfl inX4 (by decide) q_507 dX4_sumFrom_17 hN rfl rfl ?_
        refine lv_iload_n hx hb dX4_sumFrom_20 rfl (lv_at hl 1 rfl) ?_
        refine kql (f := ν.2.2 0) S hK dX4_sumFrom_21 1 2 hN rfl rfl (by decide) rfl (by first | omega | exact Nat.lt_of_le_of_lt Nat.and_le_right (by omega)) ?_
        rw [show ν.2.2 0 k = some a from ha1]
        dsimp only [va_rf]
        refine lv_astore (lv' := [(5, .ref a), (0, .ref nn), (1, .int (nI k)), (2, .int (nI kn)), (3, .int (nI va)), (4, .int (nI 1))]) hx hb dX4_sumFrom_22 hl (by decide) rfl (fun ls hl => ?_)
        refine lv_aload hx hb dX4_sumFrom_24 (lv_at hl 0 rfl) ?_
        refine lv_ifnonnull (tgt := 31) hx hb dX4_sumFrom_26 (by decide) ?_
        refine lv_aload_n hx hb dX4_sumFrom_31 rfl (lv_at hl 1 rfl) ?_
        refine lv_iload_n hx hb dX4_sumFrom_32 rfl (lv_at hl 2 rfl) ?_
        refine crV (rest := []) S hK (c_X4_slotsOf l G nn ν F Wy sl k (by first | assumption | omega | decide) (by first | assumption | omega | decide) (by omega)) cw_X4_60 rfl ⟨by simp only [rL]; omega, by simp only [rL]; omega⟩ ⟨Nat.le_of_ble_eq_true rfl, Nat.le_of_ble_eq_true rfl⟩ (bk.recv hK hN rfl rfl) hl.1 rfl (Nat.le_of_ble_eq_true rfl) dX4_sumFrom_33 ⟨hN, hNB⟩ ?_
        refine lv_istore (lv' := [(6, .int (nI (slO (sl k) (F k)))), (5, .ref a), (0, .ref nn), (1, .int (nI k)), (2, .int (nI kn)), (3, .int (nI va)), (4, .int (nI 1))]) hx hb dX4_sumFrom_36 hl (by decide) rfl (fun ls hl => ?_)
        refine lv_lconst (v := lN 0) hx hb dX4_sumFrom_38 (by decide) ?_
        refine lv_lstore (lv' := [(7, .long (lN 0)), (6, .int (nI (slO (sl k) (F k)))), (5, .ref a), (0, .ref nn), (1, .int (nI k)), (2, .int (nI kn)), (3, .int (nI va)), (4, .int (nI 1))]) hx hb dX4_sumFrom_39 hl (by decide) rfl (fun ls hl => ?_)
        refine lv_iconst (v := nI 0) hx hb dX4_sumFrom_41 (by decide) ?_
        refine lv_istore (lv' := [(9, .int (nI 0)), (7, .long (lN 0)), (6, .int (nI (slO (sl k) (F k)))), (5, .ref a), (0, .ref nn), (1, .int (nI k)), (2, .int (nI kn)), (3, .int (nI va)), (4, .int (nI 1))]) hx hb dX4_sumFrom_42 hl (by decide) rfl (fun ls hl => ?_)
        have L44 : ∀ (fu : Nat), ∀ (vs : Nat), (vs ≤ 1 <<< F k) → (fnd (paS F Wy sl n k kn va) (1 <<< F k) 0 = fnd (paS F Wy sl n k kn va) (1 <<< F k - vs) vs) → 1 <<< F k - vs < fu → ∀ ls : Array Slot, lv_has ls 15 [(0, .ref nn), (1, .int (nI k)), (2, .int (nI kn)), (3, .int (nI va)), (4, .int (nI 1)), (5, .ref a), (6, .int (nI (slO (sl k) (F k)))), (7, .long (lN 0)), (9, .int (nI vs))] → W zp l ze (rL ((n + 1) + 2) 0 0) zs zm za zb zt zc zs.heap [] 0 0 Q (F0 zm 44 ls []) := by
          intro fu
          induction fu with
          | zero =>
            intro vs hvs hfd hmu ls hl
            exact absurd hmu (Nat.not_lt_zero _)
          | succ fu ih44 =>
            intro vs hvs hfd hmu ls hl
            refine lv_iload hx hb dX4_sumFrom_44 (lv_at hl 8 rfl) ?_
            refine lv_aload hx hb dX4_sumFrom_46 (lv_at hl 5 rfl) ?_
            refine crV (rest := [.int (nI vs)]) S hK (c_X0_states l G a β (by omega)) cw_X4_63 rfl ⟨by simp only [rL]; omega, by simp only [rL]; omega⟩ ⟨Nat.le_of_ble_eq_true rfl, Nat.le_of_ble_eq_true rfl⟩ (bk.recv hK hB rfl rfl) hl.1 rfl (Nat.le_of_ble_eq_true rfl) dX4_sumFrom_48 hB ?_
            refine n_icmp_ge (tgt := 159) hx hb dX4_sumFrom_51 (by decide) (by first | omega | exact Nat.lt_of_le_of_lt Nat.and_le_right (by omega)) (by first | omega | exact Nat.lt_of_le_of_lt Nat.and_le_right (by omega)) (fun c_51 => ?_) (fun c_51 => ?_)
            ·
              have hr : sfA F Wy sl (n + 1) k kn va = false := by
                rw [sfA_s, hfd, show 1 <<< F k - vs = 0 from by omega]
                rfl
              refine lv_lload hx hb dX4_sumFrom_159 (lv_at hl 7 rfl) ?_
              refine w_top (v' := .long (lN (bN (sfA F Wy sl (n + 1) k kn va)))) (congrArg (fun z => Value.long (lN z)) (show 0 = (bN (sfA F Wy sl (n + 1) k kn va)) from (bN_f hr).symm)) ?_
              exact hE _ _ (kr_l dX4_sumFrom_161)
            ·
              obtain ⟨hw1, hw2⟩ := hb6 vs (by omega)
              refine lv_aload hx hb dX4_sumFrom_54 (lv_at hl 5 rfl) ?_
              refine kg (C := RX0) (T := TX0) (N := 9) (ci := 0) (k := 6) (v := .ref (a + 3)) S hK rfl inX0 (by decide) q_209 dX4_sumFrom_56 hB rfl rfl ?_
              refine lv_iload hx hb dX4_sumFrom_59 (lv_at hl 8 rfl) ?_
              refine kil (f := β.2.1 6) S hK dX4_sumFrom_61 3 hB rfl (by decide) rfl (by first | omega | exact Nat.lt_of_le_of_lt Nat.and_le_right (by omega)) ?_
              refine w_top (v' := .int (nI (Wy k vs))) (congrArg (fun z => Value.int (nI z)) hw1) ?_
              refine n_i2l hx hb dX4_sumFrom_62 (by first | omega | exact Nat.lt_of_le_of_lt Nat.and_le_right (by omega)) ?_
              refine lv_lstore (lv' := [(10, .long (lN (Wy k vs))), (0, .ref nn), (1, .int (nI k)), (2, .int (nI kn)), (3, .int (nI va)), (4, .int (nI 1)), (5, .ref a), (6, .int (nI (slO (sl k) (F k)))), (7, .long (lN 0)), (9, .int (nI vs))]) hx hb dX4_sumFrom_63 hl (by decide) rfl (fun ls hl => ?_)
              refine lv_lload hx hb dX4_sumFrom_65 (lv_at hl 0 rfl) ?_
              refine lv_lconst (v := lN 0) hx hb dX4_sumFrom_67 (by decide) ?_
              refine W.lcmp hx hb dX4_sumFrom_68 ?_
              refine nl_if_ne (tgt := 76) hx hb dX4_sumFrom_69 (by decide) (by first | omega | exact Nat.lt_of_le_of_lt Nat.and_le_right (by omega)) (by decide) (fun c_69 => ?_) (fun c_69 => ?_)
              ·
                refine lv_aload_n hx hb dX4_sumFrom_76 rfl (lv_at hl 1 rfl) ?_
                refine lv_iload_n hx hb dX4_sumFrom_77 rfl (lv_at hl 2 rfl) ?_
                refine lv_iload hx hb dX4_sumFrom_78 (lv_at hl 9 rfl) ?_
                by_cases hcl : bO (sl k) vs (F k) &&& bZ (sl k) vs (F k) = 0
                ·
                  have hO22 := bO_lt (g := sl k) (m := 22) (st := vs) (F k) (fun i hi => (hsl k (by omega) i hi).2)
                  refine crV (rest := []) S hK (c_X4_bitsIn_y l G nn ν F Wy sl k vs (by first | assumption | omega | decide) (by first | assumption | omega | decide) (by omega) (by omega) hcl) cw_X4_69 rfl ⟨by simp only [rL]; omega, by simp only [rL]; omega⟩ ⟨Nat.le_of_ble_eq_true rfl, Nat.le_of_ble_eq_true rfl⟩ (bk.recv hK hN rfl rfl) hl.1 rfl (Nat.le_of_ble_eq_true rfl) dX4_sumFrom_80 ⟨hN, hNB⟩ ?_
                  refine lv_istore (lv' := [(12, .int (nI (bO (sl k) vs (F k)))), (10, .long (lN (Wy k vs))), (0, .ref nn), (1, .int (nI k)), (2, .int (nI kn)), (3, .int (nI va)), (4, .int (nI 1)), (5, .ref a), (6, .int (nI (slO (sl k) (F k)))), (7, .long (lN 0)), (9, .int (nI vs))]) hx hb dX4_sumFrom_83 hl (by decide) rfl (fun ls hl => ?_)
                  refine lv_iload hx hb dX4_sumFrom_85 (lv_at hl 0 rfl) ?_
                  refine lv_iconst (v := (-1)) hx hb dX4_sumFrom_87 (by decide) ?_
                  refine lv_icmp_eq (tgt := 153) hx hb dX4_sumFrom_88 (by decide) (fun c_88 => ?_) (fun c_88 => ?_)
                  ·
                    exact absurd c_88.symm (neg1_ne (by omega))
                  ·
                    refine lv_iload hx hb dX4_sumFrom_91 (lv_at hl 0 rfl) ?_
                    refine lv_iload_n hx hb dX4_sumFrom_93 rfl (lv_at hl 5 rfl) ?_
                    refine n_ixor hx hb dX4_sumFrom_94 ?_
                    refine lv_iload hx hb dX4_sumFrom_95 (lv_at hl 8 rfl) ?_
                    refine n_iand hx hb dX4_sumFrom_97 ?_
                    refine lv_iload_n hx hb dX4_sumFrom_98 rfl (lv_at hl 4 rfl) ?_
                    refine n_iand hx hb dX4_sumFrom_99 ?_
                    refine n_if_eq (tgt := 106) hx hb dX4_sumFrom_100 (by decide) (by first | omega | exact Nat.lt_of_le_of_lt Nat.and_le_right (by omega)) (fun c_100 => ?_) (fun c_100 => ?_)
                    ·
                      refine lv_aload_n hx hb dX4_sumFrom_106 rfl (lv_at hl 2 rfl) ?_
                      refine lv_iload_n hx hb dX4_sumFrom_107 rfl (lv_at hl 3 rfl) ?_
                      refine lv_iconst (v := nI 1) hx hb dX4_sumFrom_108 (by decide) ?_
                      refine n_iadd hx hb dX4_sumFrom_109 ?_
                      refine lv_iload_n hx hb dX4_sumFrom_110 rfl (lv_at hl 4 rfl) ?_
                      refine lv_iload hx hb dX4_sumFrom_111 (lv_at hl 8 rfl) ?_
                      refine n_ior hx hb dX4_sumFrom_113 ?_
                      refine lv_iload_n hx hb dX4_sumFrom_114 rfl (lv_at hl 5 rfl) ?_
                      refine lv_iload hx hb dX4_sumFrom_115 (lv_at hl 0 rfl) ?_
                      refine n_ior hx hb dX4_sumFrom_117 ?_
                      refine lv_iload hx hb dX4_sumFrom_118 (lv_at hl 6 rfl) ?_
                      have hok : okS F Wy sl k vs kn va = true := ok_y c_69 hcl c_100
                      refine crS (rest := []) S hK (ih nn ν F Wy sl (k + 1) (kn ||| (slO (sl k) (F k))) (va ||| (bO (sl k) vs (F k))) hP8 hsl (by omega) (Nat.or_lt_two_pow hkn hM22) (Nat.or_lt_two_pow hva hO22)) cw_X4_56 rfl ⟨by simp only [rL]; omega, by simp only [rL]; omega⟩ ⟨Nat.le_of_ble_eq_true rfl, Nat.le_of_ble_eq_true rfl⟩ hl.1 rfl (Nat.le_of_ble_eq_true rfl) dX4_sumFrom_120 ⟨hN, hNB⟩ ?_
                      refine lv_lstore (lv' := [(13, .long (lN (bN (sfA F Wy sl n (k + 1) (kn ||| (slO (sl k) (F k))) (va ||| (bO (sl k) vs (F k))))))), (12, .int (nI (bO (sl k) vs (F k)))), (10, .long (lN (Wy k vs))), (0, .ref nn), (1, .int (nI k)), (2, .int (nI kn)), (3, .int (nI va)), (4, .int (nI 1)), (5, .ref a), (6, .int (nI (slO (sl k) (F k)))), (7, .long (lN 0)), (9, .int (nI vs))]) hx hb dX4_sumFrom_123 hl (by decide) rfl (fun ls hl => ?_)
                      refine lv_iload hx hb dX4_sumFrom_125 (lv_at hl 7 rfl) ?_
                      refine n_if_eq (tgt := 139) hx hb dX4_sumFrom_127 (by decide) (by decide) (fun c_127 => ?_) (fun c_127 => ?_)
                      ·
                        exact absurd c_127 (by decide)
                      ·
                        refine lv_lload hx hb dX4_sumFrom_130 (lv_at hl 0 rfl) ?_
                        refine lv_lconst (v := lN 0) hx hb dX4_sumFrom_132 (by decide) ?_
                        refine W.lcmp hx hb dX4_sumFrom_133 ?_
                        refine nl_if_le (tgt := 139) hx hb dX4_sumFrom_134 (by decide) (Nat.lt_of_le_of_lt (bN_le _) (by decide)) (by decide) (fun c_134 => ?_) (fun c_134 => ?_)
                        ·
                          have hsf : sfA F Wy sl n (k + 1) (kn ||| slO (sl k) (F k)) (va ||| bO (sl k) vs (F k)) = false := by
                            cases hz : sfA F Wy sl n (k + 1) (kn ||| slO (sl k) (F k)) (va ||| bO (sl k) vs (F k))
                            · rfl
                            · rw [hz] at c_134; exact absurd c_134 (by decide)
                          have e2 : fnd (paS F Wy sl n k kn va) (1 <<< F k - vs) vs = fnd (paS F Wy sl n k kn va) (1 <<< F k - (vs + 1)) (vs + 1) := by rw [show 1 <<< F k - vs = (1 <<< F k - (vs + 1)) + 1 from by omega]; exact fnd_f ((pa_y hok).trans hsf)
                          have hbz := bN_f hsf
                          refine lv_lload hx hb dX4_sumFrom_139 (lv_at hl 10 rfl) ?_
                          refine lv_lload hx hb dX4_sumFrom_141 (lv_at hl 2 rfl) ?_
                          refine lv_lload hx hb dX4_sumFrom_143 (lv_at hl 0 rfl) ?_
                          refine n_lmul hx hb dX4_sumFrom_145 ?_
                          refine n_ladd hx hb dX4_sumFrom_146 ?_
                          have hbz2 := hbz
                          refine lv_ldc2 (v := lN 1000000007) hx hb S.2.2.2.1 (S.2.2.2.2 _ q_610) dX4_sumFrom_147 ?_
                          have hlt3 : 0 + Wy k vs * bN (sfA F Wy sl n (k + 1) (kn ||| slO (sl k) (F k)) (va ||| bO (sl k) vs (F k))) < 2 ^ 63 := by rw [hbz, Nat.mul_zero]; decide
                          refine n_lrem hx hb dX4_sumFrom_150 (by first | omega | exact Nat.lt_of_le_of_lt Nat.and_le_right (by omega)) (by decide) (by decide) ?_
                          refine w_top (v' := .long (lN 0)) (congrArg (fun z => Value.long (lN z)) (show (0 + Wy k vs * bN (sfA F Wy sl n (k + 1) (kn ||| slO (sl k) (F k)) (va ||| bO (sl k) vs (F k)))) % 1000000007 = 0 from by rw [hbz]; rfl)) ?_
                          refine lv_lstore (lv' := [(7, .long (lN 0)), (13, .long (lN (bN (sfA F Wy sl n (k + 1) (kn ||| (slO (sl k) (F k))) (va ||| (bO (sl k) vs (F k))))))), (12, .int (nI (bO (sl k) vs (F k)))), (10, .long (lN (Wy k vs))), (0, .ref nn), (1, .int (nI k)), (2, .int (nI kn)), (3, .int (nI va)), (4, .int (nI 1)), (5, .ref a), (6, .int (nI (slO (sl k) (F k)))), (9, .int (nI vs))]) hx hb dX4_sumFrom_151 hl (by decide) rfl (fun ls hl => ?_)
                          refine lv_iinc (v := (nI (vs + 1))) (lv' := [(9, .int (nI (vs + 1))), (7, .long (lN 0)), (13, .long (lN (bN (sfA F Wy sl n (k + 1) (kn ||| (slO (sl k) (F k))) (va ||| (bO (sl k) vs (F k))))))), (12, .int (nI (bO (sl k) vs (F k)))), (10, .long (lN (Wy k vs))), (0, .ref nn), (1, .int (nI k)), (2, .int (nI kn)), (3, .int (nI va)), (4, .int (nI 1)), (5, .ref a), (6, .int (nI (slO (sl k) (F k))))]) hx hb dX4_sumFrom_153 hl (k := 11) rfl (inc1 _) (by decide) rfl (fun ls hl => ?_)
                          refine lv_goto (tgt := 44) hx hb dX4_sumFrom_156 (by decide) ?_
                          exact ih44 (vs + 1) (by omega) (hfd.trans e2) (by omega) ls (lv_sub hl [5, 6, 7, 8, 9, 10, 11, 1, 0] rfl)
                        ·
                          have hsf : sfA F Wy sl n (k + 1) (kn ||| slO (sl k) (F k)) (va ||| bO (sl k) vs (F k)) = true := by
                            cases hz : sfA F Wy sl n (k + 1) (kn ||| slO (sl k) (F k)) (va ||| bO (sl k) vs (F k))
                            · rw [hz] at c_134; exact absurd c_134 (by decide)
                            · rfl
                          have hr : sfA F Wy sl (n + 1) k kn va = true := by
                            rw [sfA_s, hfd, show 1 <<< F k - vs = (1 <<< F k - (vs + 1)) + 1 from by omega, fnd_t ((pa_y hok).trans hsf)]
                            rfl
                          refine lv_lconst (v := lN 1) hx hb dX4_sumFrom_137 (by decide) ?_
                          refine w_top (v' := .long (lN (bN (sfA F Wy sl (n + 1) k kn va)))) (congrArg (fun z => Value.long (lN z)) (show 1 = (bN (sfA F Wy sl (n + 1) k kn va)) from (bN_t hr).symm)) ?_
                          exact hE _ _ (kr_l dX4_sumFrom_138)
                    ·
                      have hok : okS F Wy sl k vs kn va = false := ok_m c_100
                      have e2 : fnd (paS F Wy sl n k kn va) (1 <<< F k - vs) vs = fnd (paS F Wy sl n k kn va) (1 <<< F k - (vs + 1)) (vs + 1) := by rw [show 1 <<< F k - vs = (1 <<< F k - (vs + 1)) + 1 from by omega]; exact fnd_f (pa_n hok)
                      refine lv_goto (tgt := 153) hx hb dX4_sumFrom_103 (by decide) ?_
                      refine lv_iinc (v := (nI (vs + 1))) (lv' := [(9, .int (nI (vs + 1))), (12, .int (nI (bO (sl k) vs (F k)))), (10, .long (lN (Wy k vs))), (0, .ref nn), (1, .int (nI k)), (2, .int (nI kn)), (3, .int (nI va)), (4, .int (nI 1)), (5, .ref a), (6, .int (nI (slO (sl k) (F k)))), (7, .long (lN 0))]) hx hb dX4_sumFrom_153 hl (k := 10) rfl (inc1 _) (by decide) rfl (fun ls hl => ?_)
                      refine lv_goto (tgt := 44) hx hb dX4_sumFrom_156 (by decide) ?_
                      exact ih44 (vs + 1) (by omega) (hfd.trans e2) (by omega) ls (lv_sub hl [3, 4, 5, 6, 7, 8, 9, 10, 0] rfl)
                ·
                  have hok : okS F Wy sl k vs kn va = false := ok_c hcl
                  have e2 : fnd (paS F Wy sl n k kn va) (1 <<< F k - vs) vs = fnd (paS F Wy sl n k kn va) (1 <<< F k - (vs + 1)) (vs + 1) := by rw [show 1 <<< F k - vs = (1 <<< F k - (vs + 1)) + 1 from by omega]; exact fnd_f (pa_n hok)
                  refine crV (rest := []) S hK (c_X4_bitsIn_n l G nn ν F Wy sl k vs (by first | assumption | omega | decide) (by first | assumption | omega | decide) (by omega) (by omega) hcl) cw_X4_69 rfl ⟨by simp only [rL]; omega, by simp only [rL]; omega⟩ ⟨Nat.le_of_ble_eq_true rfl, Nat.le_of_ble_eq_true rfl⟩ (bk.recv hK hN rfl rfl) hl.1 rfl (Nat.le_of_ble_eq_true rfl) dX4_sumFrom_80 ⟨hN, hNB⟩ ?_
                  refine lv_istore (lv' := [(12, .int (-1)), (10, .long (lN (Wy k vs))), (0, .ref nn), (1, .int (nI k)), (2, .int (nI kn)), (3, .int (nI va)), (4, .int (nI 1)), (5, .ref a), (6, .int (nI (slO (sl k) (F k)))), (7, .long (lN 0)), (9, .int (nI vs))]) hx hb dX4_sumFrom_83 hl (by decide) rfl (fun ls hl => ?_)
                  refine lv_iload hx hb dX4_sumFrom_85 (lv_at hl 0 rfl) ?_
                  refine lv_iconst (v := (-1)) hx hb dX4_sumFrom_87 (by decide) ?_
                  refine lv_icmp_eq (tgt := 153) hx hb dX4_sumFrom_88 (by decide) (fun c_88 => ?_) (fun c_88 => ?_)
                  ·
                    refine lv_iinc (v := (nI (vs + 1))) (lv' := [(9, .int (nI (vs + 1))), (12, .int (-1)), (10, .long (lN (Wy k vs))), (0, .ref nn), (1, .int (nI k)), (2, .int (nI kn)), (3, .int (nI va)), (4, .int (nI 1)), (5, .ref a), (6, .int (nI (slO (sl k) (F k)))), (7, .long (lN 0))]) hx hb dX4_sumFrom_153 hl (k := 10) rfl (inc1 _) (by decide) rfl (fun ls hl => ?_)
                    refine lv_goto (tgt := 44) hx hb dX4_sumFrom_156 (by decide) ?_
                    exact ih44 (vs + 1) (by omega) (hfd.trans e2) (by omega) ls (lv_sub hl [3, 4, 5, 6, 7, 8, 9, 10, 0] rfl)
                  ·
                    exact absurd c_88 (by decide)
              ·
                have hok : okS F Wy sl k vs kn va = false := ok_w c_69
                have e2 : fnd (paS F Wy sl n k kn va) (1 <<< F k - vs) vs = fnd (paS F Wy sl n k kn va) (1 <<< F k - (vs + 1)) (vs + 1) := by rw [show 1 <<< F k - vs = (1 <<< F k - (vs + 1)) + 1 from by omega]; exact fnd_f (pa_n hok)
                refine lv_iconst (v := (-1)) hx hb dX4_sumFrom_72 (by decide) ?_
                refine lv_goto (tgt := 83) hx hb dX4_sumFrom_73 (by decide) ?_
                refine lv_istore (lv' := [(12, .int (-1)), (10, .long (lN (Wy k vs))), (0, .ref nn), (1, .int (nI k)), (2, .int (nI kn)), (3, .int (nI va)), (4, .int (nI 1)), (5, .ref a), (6, .int (nI (slO (sl k) (F k)))), (7, .long (lN 0)), (9, .int (nI vs))]) hx hb dX4_sumFrom_83 hl (by decide) rfl (fun ls hl => ?_)
                refine lv_iload hx hb dX4_sumFrom_85 (lv_at hl 0 rfl) ?_
                refine lv_iconst (v := (-1)) hx hb dX4_sumFrom_87 (by decide) ?_
                refine lv_icmp_eq (tgt := 153) hx hb dX4_sumFrom_88 (by decide) (fun c_88 => ?_) (fun c_88 => ?_)
                ·
                  refine lv_iinc (v := (nI (vs + 1))) (lv' := [(9, .int (nI (vs + 1))), (12, .int (-1)), (10, .long (lN (Wy k vs))), (0, .ref nn), (1, .int (nI k)), (2, .int (nI kn)), (3, .int (nI va)), (4, .int (nI 1)), (5, .ref a), (6, .int (nI (slO (sl k) (F k)))), (7, .long (lN 0))]) hx hb dX4_sumFrom_153 hl (k := 10) rfl (inc1 _) (by decide) rfl (fun ls hl => ?_)
                  refine lv_goto (tgt := 44) hx hb dX4_sumFrom_156 (by decide) ?_
                  exact ih44 (vs + 1) (by omega) (hfd.trans e2) (by omega) ls (lv_sub hl [3, 4, 5, 6, 7, 8, 9, 10, 0] rfl)
                ·
                  exact absurd c_88 (by decide)
        exact L44 ((1 <<< F k - 0) + 1) 0 (Nat.zero_le _) rfl (Nat.lt_succ_self _) ls (lv_sub hl [4, 5, 6, 7, 8, 3, 2, 1, 0] rfl)
      ·
        omega

set_option maxHeartbeats 1000000 in
set_option maxRecDepth 100000 in
theorem c_X4_sumInState_h (l : Launch) (G : Gt) (nn : Nat) (ν : Sx) (F : Nat → Nat) (Wy : Nat → Nat → Nat) (st : Nat) (hP8 : ν.1 1 ≤ 8) (hl12 : ∀ j, j < 40 → ν.2.1 3 j ≤ 12) (hfc : fcN F (zK ν) (ν.1 1) ≤ 10) (hst : st < 2 ^ 10) : Ct l G yX4_sumInState cX4_sumInState 4 ((some .long)) 12 0 0 [.ref nn, .int (nI st), .int (nI 0)] (fun H => bk G nn (ntL G nn ν) H ∧ NB G nn ν F Wy H) (some (.long (lN (sfH F Wy (slK ν F) (ν.1 1) 0 (((1 <<< fcN F (zK ν) (ν.1 1)) - 1) <<< 12) (st <<< 12))))) (fun H => ∃ g : Nat → Nat, bk G nn (ntL G nn (uR ν 4 g)) H ∧ True) (fun q => nn ≤ q ∧ q < nn + 4) := by
  refine ct_entry [(0, .ref nn), (1, .int (nI st)), (2, .int (nI 0))] (by decide) (Nat.le_of_ble_eq_true rfl) rfl ?_
  intro zp ze zs zm za zb zt zc Q S hK hPre hin hE ls hl
  have hx := S.1
  have hb := S.2.1
  obtain ⟨hN, hNB⟩ := hPre
  have hS : va_S (fun q => nn ≤ q ∧ q < nn + 4) zs.heap zs.heap [] := va_S.rf
  have hF5 : ∀ k, k < ν.1 1 → F k ≤ 5 := fun k hk8 => by obtain ⟨a9, β9, x1, x2, x3, x4, x5, x6⟩ := hNB k hk8; exact x5
  have hsh := shl_le (n := 10) hfc
  have hone : 1 ≤ 1 <<< fcN F (zK ν) (ν.1 1) := by rw [Nat.one_shiftLeft]; exact Nat.one_le_two_pow
  refine lv_aload_n hx hb dX4_sumInState_0 rfl (lv_at hl 0 rfl) ?_
  refine ctVv (rest := []) S hK (c_X4_giveSlots l G nn ν F Wy (by first | assumption | omega | decide) (by first | assumption | omega | decide) (by first | assumption | omega | decide)) cw_X4_49 rfl ⟨Nat.le_of_ble_eq_true rfl, Nat.le_of_ble_eq_true rfl⟩ ⟨Nat.le_of_ble_eq_true rfl, Nat.le_of_ble_eq_true rfl⟩ (bk.recv hK hN rfl rfl) hl.1 rfl (Nat.le_of_ble_eq_true rfl) dX4_sumInState_1 ⟨hN, hNB⟩ hS (fun _ h => by first | exact h | omega) (fun H locs hPost hz hk hS => ?_)
  obtain ⟨g, hN, hg⟩ := hPost
  refine lv_iconst (v := nI 1) hx hb dX4_sumInState_4 (by decide) ?_
  refine lv_aload_n hx hb dX4_sumInState_5 rfl (lv_at hl 0 rfl) ?_
  refine crV (v := .int (nI (fcN F (zK ν) (ν.1 1)))) (rest := [.int (nI 1)]) S hK (c_X4_freeCount l G nn (uR ν 4 g) F Wy hP8 hl12) cw_X4_52 rfl ⟨Nat.le_of_ble_eq_true rfl, Nat.le_of_ble_eq_true rfl⟩ ⟨Nat.le_of_ble_eq_true rfl, Nat.le_of_ble_eq_true rfl⟩ (bk.recv hK hN rfl rfl) hl.1 rfl (Nat.le_of_ble_eq_true rfl) dX4_sumInState_6 ⟨hN, (NB_S hNB hS (fun q h => h))⟩ ?_
  refine n_ishl hx hb dX4_sumInState_9 (by omega) ?_
  refine lv_iconst (v := nI 1) hx hb dX4_sumInState_10 (by decide) ?_
  refine n_isub hx hb dX4_sumInState_11 (by omega) ?_
  refine lv_bipush (v := nI 12) hx hb dX4_sumInState_12 (by decide) ?_
  refine n_ishl hx hb dX4_sumInState_14 (by decide) ?_
  refine lv_istore_n (lv' := [(3, .int (nI (((1 <<< (fcN F (zK ν) (ν.1 1))) - 1) <<< 12))), (0, .ref nn), (1, .int (nI st)), (2, .int (nI 0))]) hx hb dX4_sumInState_15 rfl hl (by decide) rfl (fun ls hl => ?_)
  refine lv_aload_n hx hb dX4_sumInState_16 rfl (lv_at hl 1 rfl) ?_
  refine lv_iconst (v := nI 0) hx hb dX4_sumInState_17 (by decide) ?_
  refine lv_iload_n hx hb dX4_sumInState_18 rfl (lv_at hl 0 rfl) ?_
  refine lv_iload_n hx hb dX4_sumInState_19 rfl (lv_at hl 2 rfl) ?_
  refine lv_bipush (v := nI 12) hx hb dX4_sumInState_20 (by decide) ?_
  refine n_ishl hx hb dX4_sumInState_22 (by decide) ?_
  refine lv_iload_n hx hb dX4_sumInState_23 rfl (lv_at hl 3 rfl) ?_
  refine crS (rest := []) S hK (c_X4_sumFrom_h l G (ν.1 1) nn (uR ν 4 g) F Wy (slK ν F) 0 (((1 <<< (fcN F (zK ν) (ν.1 1))) - 1) <<< 12) (st <<< 12) hP8 (fun k hk8 f hf => ⟨hg k hk8 f hf, sl_lt hl12 hP8 hF5 hfc hk8 hf⟩) (Nat.zero_add _) (by omega) (by omega)) cw_X4_56 rfl ⟨by simp only [rL]; omega, by simp only [rL]; omega⟩ ⟨Nat.le_of_ble_eq_true rfl, Nat.le_of_ble_eq_true rfl⟩ hl.1 rfl (Nat.le_of_ble_eq_true rfl) dX4_sumInState_24 ⟨hN, (NB_S hNB hS (fun q h => h))⟩ ?_
  refine w_top (v' := .long (lN (sfH F Wy (slK ν F) (ν.1 1) 0 (((1 <<< fcN F (zK ν) (ν.1 1)) - 1) <<< 12) (st <<< 12)))) (congrArg (fun z => Value.long (lN z)) (show (sfH F Wy (slK ν F) (ν.1 1) 0 (((1 <<< (fcN F (zK ν) (ν.1 1))) - 1) <<< 12) (st <<< 12)) = (sfH F Wy (slK ν F) (ν.1 1) 0 (((1 <<< fcN F (zK ν) (ν.1 1)) - 1) <<< 12) (st <<< 12)) from by first | rfl | omega)) ?_
  exact hE _ _ _ _ _ _ (kr_l dX4_sumInState_27) hS (by decide) (by decide) ⟨g, hN, trivial⟩

set_option maxHeartbeats 1000000 in
set_option maxRecDepth 100000 in
theorem c_X4_sumInState_a (l : Launch) (G : Gt) (nn : Nat) (ν : Sx) (F : Nat → Nat) (Wy : Nat → Nat → Nat) (st : Nat) (hP8 : ν.1 1 ≤ 8) (hl12 : ∀ j, j < 40 → ν.2.1 3 j ≤ 12) (hfc : fcN F (zK ν) (ν.1 1) ≤ 10) (hst : st < 2 ^ 10) : Ct l G yX4_sumInState cX4_sumInState 4 ((some .long)) 12 0 0 [.ref nn, .int (nI st), .int (nI 1)] (fun H => bk G nn (ntL G nn ν) H ∧ NB G nn ν F Wy H) (some (.long (lN (bN (sfA F Wy (slK ν F) (ν.1 1) 0 (((1 <<< fcN F (zK ν) (ν.1 1)) - 1) <<< 12) (st <<< 12)))))) (fun H => ∃ g : Nat → Nat, bk G nn (ntL G nn (uR ν 4 g)) H ∧ True) (fun q => nn ≤ q ∧ q < nn + 4) := by
  refine ct_entry [(0, .ref nn), (1, .int (nI st)), (2, .int (nI 1))] (by decide) (Nat.le_of_ble_eq_true rfl) rfl ?_
  intro zp ze zs zm za zb zt zc Q S hK hPre hin hE ls hl
  have hx := S.1
  have hb := S.2.1
  obtain ⟨hN, hNB⟩ := hPre
  have hS : va_S (fun q => nn ≤ q ∧ q < nn + 4) zs.heap zs.heap [] := va_S.rf
  have hF5 : ∀ k, k < ν.1 1 → F k ≤ 5 := fun k hk8 => by obtain ⟨a9, β9, x1, x2, x3, x4, x5, x6⟩ := hNB k hk8; exact x5
  have hsh := shl_le (n := 10) hfc
  have hone : 1 ≤ 1 <<< fcN F (zK ν) (ν.1 1) := by rw [Nat.one_shiftLeft]; exact Nat.one_le_two_pow
  refine lv_aload_n hx hb dX4_sumInState_0 rfl (lv_at hl 0 rfl) ?_
  refine ctVv (rest := []) S hK (c_X4_giveSlots l G nn ν F Wy (by first | assumption | omega | decide) (by first | assumption | omega | decide) (by first | assumption | omega | decide)) cw_X4_49 rfl ⟨Nat.le_of_ble_eq_true rfl, Nat.le_of_ble_eq_true rfl⟩ ⟨Nat.le_of_ble_eq_true rfl, Nat.le_of_ble_eq_true rfl⟩ (bk.recv hK hN rfl rfl) hl.1 rfl (Nat.le_of_ble_eq_true rfl) dX4_sumInState_1 ⟨hN, hNB⟩ hS (fun _ h => by first | exact h | omega) (fun H locs hPost hz hk hS => ?_)
  obtain ⟨g, hN, hg⟩ := hPost
  refine lv_iconst (v := nI 1) hx hb dX4_sumInState_4 (by decide) ?_
  refine lv_aload_n hx hb dX4_sumInState_5 rfl (lv_at hl 0 rfl) ?_
  refine crV (v := .int (nI (fcN F (zK ν) (ν.1 1)))) (rest := [.int (nI 1)]) S hK (c_X4_freeCount l G nn (uR ν 4 g) F Wy hP8 hl12) cw_X4_52 rfl ⟨Nat.le_of_ble_eq_true rfl, Nat.le_of_ble_eq_true rfl⟩ ⟨Nat.le_of_ble_eq_true rfl, Nat.le_of_ble_eq_true rfl⟩ (bk.recv hK hN rfl rfl) hl.1 rfl (Nat.le_of_ble_eq_true rfl) dX4_sumInState_6 ⟨hN, (NB_S hNB hS (fun q h => h))⟩ ?_
  refine n_ishl hx hb dX4_sumInState_9 (by omega) ?_
  refine lv_iconst (v := nI 1) hx hb dX4_sumInState_10 (by decide) ?_
  refine n_isub hx hb dX4_sumInState_11 (by omega) ?_
  refine lv_bipush (v := nI 12) hx hb dX4_sumInState_12 (by decide) ?_
  refine n_ishl hx hb dX4_sumInState_14 (by decide) ?_
  refine lv_istore_n (lv' := [(3, .int (nI (((1 <<< (fcN F (zK ν) (ν.1 1))) - 1) <<< 12))), (0, .ref nn), (1, .int (nI st)), (2, .int (nI 1))]) hx hb dX4_sumInState_15 rfl hl (by decide) rfl (fun ls hl => ?_)
  refine lv_aload_n hx hb dX4_sumInState_16 rfl (lv_at hl 1 rfl) ?_
  refine lv_iconst (v := nI 0) hx hb dX4_sumInState_17 (by decide) ?_
  refine lv_iload_n hx hb dX4_sumInState_18 rfl (lv_at hl 0 rfl) ?_
  refine lv_iload_n hx hb dX4_sumInState_19 rfl (lv_at hl 2 rfl) ?_
  refine lv_bipush (v := nI 12) hx hb dX4_sumInState_20 (by decide) ?_
  refine n_ishl hx hb dX4_sumInState_22 (by decide) ?_
  refine lv_iload_n hx hb dX4_sumInState_23 rfl (lv_at hl 3 rfl) ?_
  refine crS (rest := []) S hK (c_X4_sumFrom_a l G (ν.1 1) nn (uR ν 4 g) F Wy (slK ν F) 0 (((1 <<< (fcN F (zK ν) (ν.1 1))) - 1) <<< 12) (st <<< 12) hP8 (fun k hk8 f hf => ⟨hg k hk8 f hf, sl_lt hl12 hP8 hF5 hfc hk8 hf⟩) (Nat.zero_add _) (by omega) (by omega)) cw_X4_56 rfl ⟨by simp only [rL]; omega, by simp only [rL]; omega⟩ ⟨Nat.le_of_ble_eq_true rfl, Nat.le_of_ble_eq_true rfl⟩ hl.1 rfl (Nat.le_of_ble_eq_true rfl) dX4_sumInState_24 ⟨hN, (NB_S hNB hS (fun q h => h))⟩ ?_
  refine w_top (v' := .long (lN (bN (sfA F Wy (slK ν F) (ν.1 1) 0 (((1 <<< fcN F (zK ν) (ν.1 1)) - 1) <<< 12) (st <<< 12))))) (congrArg (fun z => Value.long (lN z)) (show (bN (sfA F Wy (slK ν F) (ν.1 1) 0 (((1 <<< (fcN F (zK ν) (ν.1 1))) - 1) <<< 12) (st <<< 12))) = (bN (sfA F Wy (slK ν F) (ν.1 1) 0 (((1 <<< fcN F (zK ν) (ν.1 1)) - 1) <<< 12) (st <<< 12))) from by first | rfl | omega)) ?_
  exact hE _ _ _ _ _ _ (kr_l dX4_sumInState_27) hS (by decide) (by decide) ⟨g, hN, trivial⟩

set_option maxHeartbeats 1000000 in
set_option maxRecDepth 100000 in
theorem c_X4_letsState (l : Launch) (G : Gt) (nn : Nat) (ν : Sx) (F : Nat → Nat) (Wy : Nat → Nat → Nat) (st : Nat) (hP8 : ν.1 1 ≤ 8) (hl12 : ∀ j, j < 40 → ν.2.1 3 j ≤ 12) (hfc : fcN F (zK ν) (ν.1 1) ≤ 10) (hst : st < 2 ^ 10) : Ct l G yX4_letsState cX4_letsState 2 ((some .boolean)) 13 0 0 [.ref nn, .int (nI st)] (fun H => bk G nn (ntL G nn ν) H ∧ NB G nn ν F Wy H) (some (.int (b2i (sfA F Wy (slK ν F) (ν.1 1) 0 (((1 <<< fcN F (zK ν) (ν.1 1)) - 1) <<< 12) (st <<< 12))))) (fun H => ∃ g : Nat → Nat, bk G nn (ntL G nn (uR ν 4 g)) H ∧ True) (fun q => nn ≤ q ∧ q < nn + 4) := by
  refine ct_entry [(0, .ref nn), (1, .int (nI st))] (by decide) (Nat.le_of_ble_eq_true rfl) rfl ?_
  intro zp ze zs zm za zb zt zc Q S hK hPre hin hE ls hl
  have hx := S.1
  have hb := S.2.1
  obtain ⟨hN, hNB⟩ := hPre
  have hS : va_S (fun q => nn ≤ q ∧ q < nn + 4) zs.heap zs.heap [] := va_S.rf
  refine lv_aload_n hx hb dX4_letsState_0 rfl (lv_at hl 0 rfl) ?_
  refine lv_iload_n hx hb dX4_letsState_1 rfl (lv_at hl 1 rfl) ?_
  refine lv_iconst (v := nI 1) hx hb dX4_letsState_2 (by decide) ?_
  refine ctV (rest := []) S hK (c_X4_sumInState_a l G nn ν F Wy st (by first | assumption | omega | decide) (by first | assumption | omega | decide) (by first | assumption | omega | decide) (by first | assumption | omega | decide)) cw_X4_42 rfl ⟨Nat.le_of_ble_eq_true rfl, Nat.le_of_ble_eq_true rfl⟩ ⟨Nat.le_of_ble_eq_true rfl, Nat.le_of_ble_eq_true rfl⟩ (bk.recv hK hN rfl rfl) hl.1 rfl (Nat.le_of_ble_eq_true rfl) dX4_letsState_3 ⟨hN, hNB⟩ hS (fun _ h => by first | exact h | omega) (fun H locs hPost hz hk hS => ?_)
  obtain ⟨g, hN, hg⟩ := hPost
  refine lv_lconst (v := lN 0) hx hb dX4_letsState_6 (by decide) ?_
  refine W.lcmp hx hb dX4_letsState_7 ?_
  refine nl_if_le (tgt := 15) hx hb dX4_letsState_8 (by decide) (Nat.lt_of_le_of_lt (bN_le _) (by decide)) (by decide) (fun c_8 => ?_) (fun c_8 => ?_)
  ·
    have hr : sfA F Wy (slK ν F) (ν.1 1) 0 (((1 <<< fcN F (zK ν) (ν.1 1)) - 1) <<< 12) (st <<< 12) = false := by
      cases hz : sfA F Wy (slK ν F) (ν.1 1) 0 (((1 <<< fcN F (zK ν) (ν.1 1)) - 1) <<< 12) (st <<< 12)
      · rfl
      · rw [hz] at c_8; exact absurd c_8 (by decide)
    refine lv_iconst (v := nI 0) hx hb dX4_letsState_15 (by decide) ?_
    refine w_top (v' := .int (b2i (sfA F Wy (slK ν F) (ν.1 1) 0 (((1 <<< fcN F (zK ν) (ν.1 1)) - 1) <<< 12) (st <<< 12)))) (bz_f (show (sfA F Wy (slK ν F) (ν.1 1) 0 (((1 <<< fcN F (zK ν) (ν.1 1)) - 1) <<< 12) (st <<< 12)) = false from hr)) ?_
    exact hE _ _ _ _ _ _ (kr_z dX4_letsState_16) hS (by decide) (by decide) ⟨g, hN, trivial⟩
  ·
    have hr : sfA F Wy (slK ν F) (ν.1 1) 0 (((1 <<< fcN F (zK ν) (ν.1 1)) - 1) <<< 12) (st <<< 12) = true := by
      cases hz : sfA F Wy (slK ν F) (ν.1 1) 0 (((1 <<< fcN F (zK ν) (ν.1 1)) - 1) <<< 12) (st <<< 12)
      · rw [hz] at c_8; exact absurd c_8 (by decide)
      · rfl
    refine lv_iconst (v := nI 1) hx hb dX4_letsState_11 (by decide) ?_
    refine lv_goto (tgt := 16) hx hb dX4_letsState_12 (by decide) ?_
    refine w_top (v' := .int (b2i (sfA F Wy (slK ν F) (ν.1 1) 0 (((1 <<< fcN F (zK ν) (ν.1 1)) - 1) <<< 12) (st <<< 12)))) (bz_t (show (sfA F Wy (slK ν F) (ν.1 1) 0 (((1 <<< fcN F (zK ν) (ν.1 1)) - 1) <<< 12) (st <<< 12)) = true from hr)) ?_
    exact hE _ _ _ _ _ _ (kr_z dX4_letsState_16) hS (by decide) (by decide) ⟨g, hN, trivial⟩

set_option maxHeartbeats 1000000 in
set_option maxRecDepth 100000 in
theorem c_X4_waysInState (l : Launch) (G : Gt) (nn : Nat) (ν : Sx) (F : Nat → Nat) (Wy : Nat → Nat → Nat) (st : Nat) (hP8 : ν.1 1 ≤ 8) (hl12 : ∀ j, j < 40 → ν.2.1 3 j ≤ 12) (hfc : fcN F (zK ν) (ν.1 1) ≤ 10) (hst : st < 2 ^ 10) : Ct l G yX4_waysInState cX4_waysInState 2 ((some .int)) 13 0 0 [.ref nn, .int (nI st)] (fun H => bk G nn (ntL G nn ν) H ∧ NB G nn ν F Wy H) (some (.int (nI (sfH F Wy (slK ν F) (ν.1 1) 0 (((1 <<< fcN F (zK ν) (ν.1 1)) - 1) <<< 12) (st <<< 12))))) (fun H => ∃ g : Nat → Nat, bk G nn (ntL G nn (uR ν 4 g)) H ∧ True) (fun q => nn ≤ q ∧ q < nn + 4) := by
  refine ct_entry [(0, .ref nn), (1, .int (nI st))] (by decide) (Nat.le_of_ble_eq_true rfl) rfl ?_
  intro zp ze zs zm za zb zt zc Q S hK hPre hin hE ls hl
  have hx := S.1
  have hb := S.2.1
  obtain ⟨hN, hNB⟩ := hPre
  have hS : va_S (fun q => nn ≤ q ∧ q < nn + 4) zs.heap zs.heap [] := va_S.rf
  refine lv_aload_n hx hb dX4_waysInState_0 rfl (lv_at hl 0 rfl) ?_
  refine lv_iload_n hx hb dX4_waysInState_1 rfl (lv_at hl 1 rfl) ?_
  refine lv_iconst (v := nI 0) hx hb dX4_waysInState_2 (by decide) ?_
  refine ctV (rest := []) S hK (c_X4_sumInState_h l G nn ν F Wy st (by first | assumption | omega | decide) (by first | assumption | omega | decide) (by first | assumption | omega | decide) (by first | assumption | omega | decide)) cw_X4_42 rfl ⟨Nat.le_of_ble_eq_true rfl, Nat.le_of_ble_eq_true rfl⟩ ⟨Nat.le_of_ble_eq_true rfl, Nat.le_of_ble_eq_true rfl⟩ (bk.recv hK hN rfl rfl) hl.1 rfl (Nat.le_of_ble_eq_true rfl) dX4_waysInState_3 ⟨hN, hNB⟩ hS (fun _ h => by first | exact h | omega) (fun H locs hPost hz hk hS => ?_)
  obtain ⟨g, hN, hg⟩ := hPost
  refine n_l2i hx hb dX4_waysInState_6 ?_
  exact hE _ _ _ _ _ _ (kr_i dX4_waysInState_7) hS (by decide) (by decide) ⟨g, hN, trivial⟩
